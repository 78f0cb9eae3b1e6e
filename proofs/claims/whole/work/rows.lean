section
/-- a private method of a class that the tables say can be made, by its rows of tables_1 -/
def lw_okq (q : MethodName × Nat) : Prop := (q.1.cls ≠ "java/lang/invoke/MethodHandle" ∧ q.1.cls ≠ "java/lang/invoke/VarHandle") ∧ Cond.instantiable q.1.cls q.2 ∈ tables_1 ∧ Cond.privateMethod q.1 ∈ tables_1 ∧ Cond.instanceMethod q.1 ∈ tables_1
theorem lw_p0 : lw_okq (⟨"BarFigures$Sheet", "faultOfCells", "(III)I"⟩, 3) := ⟨⟨by decide +kernel, by decide +kernel⟩, List.mem_of_getElem? (i := 171) (by decide +kernel), List.mem_of_getElem? (i := 217) (by decide +kernel), List.mem_of_getElem? (i := 218) (by decide +kernel)⟩
theorem lw_p1 : lw_okq (⟨"BarFigures$Sheet", "isNothing", "()Z"⟩, 3) := ⟨⟨by decide +kernel, by decide +kernel⟩, List.mem_of_getElem? (i := 171) (by decide +kernel), List.mem_of_getElem? (i := 221) (by decide +kernel), List.mem_of_getElem? (i := 222) (by decide +kernel)⟩
theorem lw_p2 : lw_okq (⟨"BarFigures$Sheet", "hasCells", "(II)Z"⟩, 3) := ⟨⟨by decide +kernel, by decide +kernel⟩, List.mem_of_getElem? (i := 171) (by decide +kernel), List.mem_of_getElem? (i := 225) (by decide +kernel), List.mem_of_getElem? (i := 226) (by decide +kernel)⟩
theorem lw_p3 : lw_okq (⟨"BarFigures", "faulted", "(I)I"⟩, 7) := ⟨⟨by decide +kernel, by decide +kernel⟩, List.mem_of_getElem? (i := 15) (by decide +kernel), List.mem_of_getElem? (i := 229) (by decide +kernel), List.mem_of_getElem? (i := 230) (by decide +kernel)⟩
theorem lw_p4 : lw_okq (⟨"BarFigures$Sheet", "read", "(I)I"⟩, 3) := ⟨⟨by decide +kernel, by decide +kernel⟩, List.mem_of_getElem? (i := 171) (by decide +kernel), List.mem_of_getElem? (i := 239) (by decide +kernel), List.mem_of_getElem? (i := 240) (by decide +kernel)⟩
theorem lw_p5 : lw_okq (⟨"BarFigures$Panel", "renew", "(II)V"⟩, 5) := ⟨⟨by decide +kernel, by decide +kernel⟩, List.mem_of_getElem? (i := 25) (by decide +kernel), List.mem_of_getElem? (i := 259) (by decide +kernel), List.mem_of_getElem? (i := 260) (by decide +kernel)⟩
theorem lw_p6 : lw_okq (⟨"BarFigures$Place", "renew", "(III)V"⟩, 6) := ⟨⟨by decide +kernel, by decide +kernel⟩, List.mem_of_getElem? (i := 54) (by decide +kernel), List.mem_of_getElem? (i := 269) (by decide +kernel), List.mem_of_getElem? (i := 270) (by decide +kernel)⟩
theorem lw_p7 : lw_okq (⟨"BarFigures$Place", "light", "()V"⟩, 6) := ⟨⟨by decide +kernel, by decide +kernel⟩, List.mem_of_getElem? (i := 54) (by decide +kernel), List.mem_of_getElem? (i := 273) (by decide +kernel), List.mem_of_getElem? (i := 274) (by decide +kernel)⟩
theorem lw_p8 : lw_okq (⟨"BarFigures$Place", "litIf", "(III)I"⟩, 6) := ⟨⟨by decide +kernel, by decide +kernel⟩, List.mem_of_getElem? (i := 54) (by decide +kernel), List.mem_of_getElem? (i := 277) (by decide +kernel), List.mem_of_getElem? (i := 278) (by decide +kernel)⟩
theorem lw_p9 : lw_okq (⟨"BarFigures$Looks", "look", "(II)I"⟩, 1) := ⟨⟨by decide +kernel, by decide +kernel⟩, List.mem_of_getElem? (i := 33) (by decide +kernel), List.mem_of_getElem? (i := 281) (by decide +kernel), List.mem_of_getElem? (i := 282) (by decide +kernel)⟩
theorem lw_p10 : lw_okq (⟨"BarFigures", "isPlace", "(I)Z"⟩, 7) := ⟨⟨by decide +kernel, by decide +kernel⟩, List.mem_of_getElem? (i := 15) (by decide +kernel), List.mem_of_getElem? (i := 290) (by decide +kernel), List.mem_of_getElem? (i := 291) (by decide +kernel)⟩
theorem lw_p11 : lw_okq (⟨"BarFigures$Place", "unlikeSets", "()I"⟩, 6) := ⟨⟨by decide +kernel, by decide +kernel⟩, List.mem_of_getElem? (i := 54) (by decide +kernel), List.mem_of_getElem? (i := 294) (by decide +kernel), List.mem_of_getElem? (i := 295) (by decide +kernel)⟩
theorem lw_p12 : lw_okq (⟨"BarFigures$Place", "digitsOf", "(I)I"⟩, 6) := ⟨⟨by decide +kernel, by decide +kernel⟩, List.mem_of_getElem? (i := 54) (by decide +kernel), List.mem_of_getElem? (i := 298) (by decide +kernel), List.mem_of_getElem? (i := 299) (by decide +kernel)⟩
theorem lw_p13 : lw_okq (⟨"BarFigures$Panel", "digitOf", "(II)I"⟩, 5) := ⟨⟨by decide +kernel, by decide +kernel⟩, List.mem_of_getElem? (i := 25) (by decide +kernel), List.mem_of_getElem? (i := 302) (by decide +kernel), List.mem_of_getElem? (i := 303) (by decide +kernel)⟩
theorem lw_p14 : lw_okq (⟨"BarFigures$Place", "lit", "(I)I"⟩, 6) := ⟨⟨by decide +kernel, by decide +kernel⟩, List.mem_of_getElem? (i := 54) (by decide +kernel), List.mem_of_getElem? (i := 306) (by decide +kernel), List.mem_of_getElem? (i := 307) (by decide +kernel)⟩
theorem lw_p15 : lw_okq (⟨"BarFigures$Place", "exchangeDead", "(I)I"⟩, 6) := ⟨⟨by decide +kernel, by decide +kernel⟩, List.mem_of_getElem? (i := 54) (by decide +kernel), List.mem_of_getElem? (i := 319) (by decide +kernel), List.mem_of_getElem? (i := 320) (by decide +kernel)⟩
def lw_privs_1 : List (MethodName × Nat) := [(⟨"BarFigures$Sheet", "faultOfCells", "(III)I"⟩, 3), (⟨"BarFigures$Sheet", "isNothing", "()Z"⟩, 3), (⟨"BarFigures$Sheet", "hasCells", "(II)Z"⟩, 3), (⟨"BarFigures", "faulted", "(I)I"⟩, 7), (⟨"BarFigures$Sheet", "read", "(I)I"⟩, 3), (⟨"BarFigures$Panel", "renew", "(II)V"⟩, 5), (⟨"BarFigures$Place", "renew", "(III)V"⟩, 6), (⟨"BarFigures$Place", "light", "()V"⟩, 6), (⟨"BarFigures$Place", "litIf", "(III)I"⟩, 6), (⟨"BarFigures$Looks", "look", "(II)I"⟩, 1), (⟨"BarFigures", "isPlace", "(I)Z"⟩, 7), (⟨"BarFigures$Place", "unlikeSets", "()I"⟩, 6), (⟨"BarFigures$Place", "digitsOf", "(I)I"⟩, 6), (⟨"BarFigures$Panel", "digitOf", "(II)I"⟩, 5), (⟨"BarFigures$Place", "lit", "(I)I"⟩, 6), (⟨"BarFigures$Place", "exchangeDead", "(I)I"⟩, 6)]
theorem lw_r1 : ∀ q ∈ lw_privs_1, lw_okq q := List.forall_mem_cons.mpr ⟨lw_p0, List.forall_mem_cons.mpr ⟨lw_p1, List.forall_mem_cons.mpr ⟨lw_p2, List.forall_mem_cons.mpr ⟨lw_p3, List.forall_mem_cons.mpr ⟨lw_p4, List.forall_mem_cons.mpr ⟨lw_p5, List.forall_mem_cons.mpr ⟨lw_p6, List.forall_mem_cons.mpr ⟨lw_p7, List.forall_mem_cons.mpr ⟨lw_p8, List.forall_mem_cons.mpr ⟨lw_p9, List.forall_mem_cons.mpr ⟨lw_p10, List.forall_mem_cons.mpr ⟨lw_p11, List.forall_mem_cons.mpr ⟨lw_p12, List.forall_mem_cons.mpr ⟨lw_p13, List.forall_mem_cons.mpr ⟨lw_p14, List.forall_mem_cons.mpr ⟨lw_p15, fun _ h => absurd h List.not_mem_nil⟩⟩⟩⟩⟩⟩⟩⟩⟩⟩⟩⟩⟩⟩⟩⟩
theorem lw_p16 : lw_okq (⟨"BarFigures$Place", "exchangeStuck", "(I)I"⟩, 6) := ⟨⟨by decide +kernel, by decide +kernel⟩, List.mem_of_getElem? (i := 54) (by decide +kernel), List.mem_of_getElem? (i := 327) (by decide +kernel), List.mem_of_getElem? (i := 328) (by decide +kernel)⟩
theorem lw_p17 : lw_okq (⟨"BarFigures$Panel", "isNone", "()Z"⟩, 5) := ⟨⟨by decide +kernel, by decide +kernel⟩, List.mem_of_getElem? (i := 25) (by decide +kernel), List.mem_of_getElem? (i := 344) (by decide +kernel), List.mem_of_getElem? (i := 345) (by decide +kernel)⟩
theorem lw_p18 : lw_okq (⟨"BarFigures$Panel", "isNumber", "(I)Z"⟩, 5) := ⟨⟨by decide +kernel, by decide +kernel⟩, List.mem_of_getElem? (i := 25) (by decide +kernel), List.mem_of_getElem? (i := 348) (by decide +kernel), List.mem_of_getElem? (i := 349) (by decide +kernel)⟩
theorem lw_p19 : lw_okq (⟨"BarFigures$Panel", "litBars", "(I)I"⟩, 5) := ⟨⟨by decide +kernel, by decide +kernel⟩, List.mem_of_getElem? (i := 25) (by decide +kernel), List.mem_of_getElem? (i := 352) (by decide +kernel), List.mem_of_getElem? (i := 353) (by decide +kernel)⟩
theorem lw_p20 : lw_okq (⟨"BarFigures$Panel", "countAlike", "(I)I"⟩, 5) := ⟨⟨by decide +kernel, by decide +kernel⟩, List.mem_of_getElem? (i := 25) (by decide +kernel), List.mem_of_getElem? (i := 368) (by decide +kernel), List.mem_of_getElem? (i := 369) (by decide +kernel)⟩
theorem lw_p21 : lw_okq (⟨"BarFigures$Panel", "digitsAlike", "(II)I"⟩, 5) := ⟨⟨by decide +kernel, by decide +kernel⟩, List.mem_of_getElem? (i := 25) (by decide +kernel), List.mem_of_getElem? (i := 372) (by decide +kernel), List.mem_of_getElem? (i := 373) (by decide +kernel)⟩
theorem lw_p22 : lw_okq (⟨"BarFigures$Panel", "numberAlike", "(II)I"⟩, 5) := ⟨⟨by decide +kernel, by decide +kernel⟩, List.mem_of_getElem? (i := 25) (by decide +kernel), List.mem_of_getElem? (i := 381) (by decide +kernel), List.mem_of_getElem? (i := 382) (by decide +kernel)⟩
theorem lw_p23 : lw_okq (⟨"BarFigures$Panel", "flipsBetween", "(II)I"⟩, 5) := ⟨⟨by decide +kernel, by decide +kernel⟩, List.mem_of_getElem? (i := 25) (by decide +kernel), List.mem_of_getElem? (i := 392) (by decide +kernel), List.mem_of_getElem? (i := 393) (by decide +kernel)⟩
theorem lw_p24 : lw_okq (⟨"BarFigures$Panel", "flipsOfStep", "(I)I"⟩, 5) := ⟨⟨by decide +kernel, by decide +kernel⟩, List.mem_of_getElem? (i := 25) (by decide +kernel), List.mem_of_getElem? (i := 400) (by decide +kernel), List.mem_of_getElem? (i := 401) (by decide +kernel)⟩
theorem lw_p25 : lw_okq (⟨"BarFigures$Panel", "nearestTo", "(I)I"⟩, 5) := ⟨⟨by decide +kernel, by decide +kernel⟩, List.mem_of_getElem? (i := 25) (by decide +kernel), List.mem_of_getElem? (i := 415) (by decide +kernel), List.mem_of_getElem? (i := 416) (by decide +kernel)⟩
theorem lw_p26 : lw_okq (⟨"BarFigures$Panel", "nearestUnlike", "(I)I"⟩, 5) := ⟨⟨by decide +kernel, by decide +kernel⟩, List.mem_of_getElem? (i := 25) (by decide +kernel), List.mem_of_getElem? (i := 420) (by decide +kernel), List.mem_of_getElem? (i := 421) (by decide +kernel)⟩
theorem lw_p27 : lw_okq (⟨"BarFigures$Panel", "unlikePictures", "()I"⟩, 5) := ⟨⟨by decide +kernel, by decide +kernel⟩, List.mem_of_getElem? (i := 25) (by decide +kernel), List.mem_of_getElem? (i := 429) (by decide +kernel), List.mem_of_getElem? (i := 430) (by decide +kernel)⟩
theorem lw_p28 : lw_okq (⟨"BarFigures$Panel", "makeStep", "()I"⟩, 5) := ⟨⟨by decide +kernel, by decide +kernel⟩, List.mem_of_getElem? (i := 25) (by decide +kernel), List.mem_of_getElem? (i := 438) (by decide +kernel), List.mem_of_getElem? (i := 439) (by decide +kernel)⟩
theorem lw_p29 : lw_okq (⟨"BarFigures$Place", "wearBetween", "(III)I"⟩, 6) := ⟨⟨by decide +kernel, by decide +kernel⟩, List.mem_of_getElem? (i := 54) (by decide +kernel), List.mem_of_getElem? (i := 442) (by decide +kernel), List.mem_of_getElem? (i := 443) (by decide +kernel)⟩
theorem lw_p30 : lw_okq (⟨"BarFigures$Panel", "numberAfter", "(I)I"⟩, 5) := ⟨⟨by decide +kernel, by decide +kernel⟩, List.mem_of_getElem? (i := 25) (by decide +kernel), List.mem_of_getElem? (i := 447) (by decide +kernel), List.mem_of_getElem? (i := 448) (by decide +kernel)⟩
theorem lw_p31 : lw_okq (⟨"BarFigures$Panel", "stepsToDeath", "(III)I"⟩, 5) := ⟨⟨by decide +kernel, by decide +kernel⟩, List.mem_of_getElem? (i := 25) (by decide +kernel), List.mem_of_getElem? (i := 455) (by decide +kernel), List.mem_of_getElem? (i := 456) (by decide +kernel)⟩
def lw_privs_2 : List (MethodName × Nat) := [(⟨"BarFigures$Place", "exchangeStuck", "(I)I"⟩, 6), (⟨"BarFigures$Panel", "isNone", "()Z"⟩, 5), (⟨"BarFigures$Panel", "isNumber", "(I)Z"⟩, 5), (⟨"BarFigures$Panel", "litBars", "(I)I"⟩, 5), (⟨"BarFigures$Panel", "countAlike", "(I)I"⟩, 5), (⟨"BarFigures$Panel", "digitsAlike", "(II)I"⟩, 5), (⟨"BarFigures$Panel", "numberAlike", "(II)I"⟩, 5), (⟨"BarFigures$Panel", "flipsBetween", "(II)I"⟩, 5), (⟨"BarFigures$Panel", "flipsOfStep", "(I)I"⟩, 5), (⟨"BarFigures$Panel", "nearestTo", "(I)I"⟩, 5), (⟨"BarFigures$Panel", "nearestUnlike", "(I)I"⟩, 5), (⟨"BarFigures$Panel", "unlikePictures", "()I"⟩, 5), (⟨"BarFigures$Panel", "makeStep", "()I"⟩, 5), (⟨"BarFigures$Place", "wearBetween", "(III)I"⟩, 6), (⟨"BarFigures$Panel", "numberAfter", "(I)I"⟩, 5), (⟨"BarFigures$Panel", "stepsToDeath", "(III)I"⟩, 5)]
theorem lw_r2 : ∀ q ∈ lw_privs_2, lw_okq q := List.forall_mem_cons.mpr ⟨lw_p16, List.forall_mem_cons.mpr ⟨lw_p17, List.forall_mem_cons.mpr ⟨lw_p18, List.forall_mem_cons.mpr ⟨lw_p19, List.forall_mem_cons.mpr ⟨lw_p20, List.forall_mem_cons.mpr ⟨lw_p21, List.forall_mem_cons.mpr ⟨lw_p22, List.forall_mem_cons.mpr ⟨lw_p23, List.forall_mem_cons.mpr ⟨lw_p24, List.forall_mem_cons.mpr ⟨lw_p25, List.forall_mem_cons.mpr ⟨lw_p26, List.forall_mem_cons.mpr ⟨lw_p27, List.forall_mem_cons.mpr ⟨lw_p28, List.forall_mem_cons.mpr ⟨lw_p29, List.forall_mem_cons.mpr ⟨lw_p30, List.forall_mem_cons.mpr ⟨lw_p31, fun _ h => absurd h List.not_mem_nil⟩⟩⟩⟩⟩⟩⟩⟩⟩⟩⟩⟩⟩⟩⟩⟩
theorem lw_p32 : lw_okq (⟨"BarFigures$Sights", "fill", "(LBarFigures$Panel;LBarFigures$Sheet;II)Z"⟩, 2) := ⟨⟨by decide +kernel, by decide +kernel⟩, List.mem_of_getElem? (i := 134) (by decide +kernel), List.mem_of_getElem? (i := 467) (by decide +kernel), List.mem_of_getElem? (i := 468) (by decide +kernel)⟩
theorem lw_p33 : lw_okq (⟨"BarFigures$Sights", "begins", "(LBarFigures$Panel;II)I"⟩, 2) := ⟨⟨by decide +kernel, by decide +kernel⟩, List.mem_of_getElem? (i := 134) (by decide +kernel), List.mem_of_getElem? (i := 474) (by decide +kernel), List.mem_of_getElem? (i := 475) (by decide +kernel)⟩
theorem lw_p34 : lw_okq (⟨"BarFigures$Sights", "isBegin", "(LBarFigures$Panel;II)Z"⟩, 2) := ⟨⟨by decide +kernel, by decide +kernel⟩, List.mem_of_getElem? (i := 134) (by decide +kernel), List.mem_of_getElem? (i := 478) (by decide +kernel), List.mem_of_getElem? (i := 479) (by decide +kernel)⟩
theorem lw_p35 : lw_okq (⟨"BarFigures$Sights", "isRow", "(III)Z"⟩, 2) := ⟨⟨by decide +kernel, by decide +kernel⟩, List.mem_of_getElem? (i := 134) (by decide +kernel), List.mem_of_getElem? (i := 482) (by decide +kernel), List.mem_of_getElem? (i := 483) (by decide +kernel)⟩
theorem lw_p36 : lw_okq (⟨"BarFigures$Place", "fewestToMend", "()I"⟩, 6) := ⟨⟨by decide +kernel, by decide +kernel⟩, List.mem_of_getElem? (i := 54) (by decide +kernel), List.mem_of_getElem? (i := 491) (by decide +kernel), List.mem_of_getElem? (i := 492) (by decide +kernel)⟩
theorem lw_p37 : lw_okq (⟨"BarFigures$Place", "isClearIf", "(I)Z"⟩, 6) := ⟨⟨by decide +kernel, by decide +kernel⟩, List.mem_of_getElem? (i := 54) (by decide +kernel), List.mem_of_getElem? (i := 496) (by decide +kernel), List.mem_of_getElem? (i := 497) (by decide +kernel)⟩
theorem lw_p38 : lw_okq (⟨"BarFigures$Ordering", "fill", "(LBarFigures$Panel;LBarFigures$Sheet;II)Z"⟩, 6) := ⟨⟨by decide +kernel, by decide +kernel⟩, List.mem_of_getElem? (i := 147) (by decide +kernel), List.mem_of_getElem? (i := 507) (by decide +kernel), List.mem_of_getElem? (i := 508) (by decide +kernel)⟩
theorem lw_p39 : lw_okq (⟨"BarFigures$Ordering", "search", "()V"⟩, 6) := ⟨⟨by decide +kernel, by decide +kernel⟩, List.mem_of_getElem? (i := 147) (by decide +kernel), List.mem_of_getElem? (i := 515) (by decide +kernel), List.mem_of_getElem? (i := 516) (by decide +kernel)⟩
theorem lw_p40 : lw_okq (⟨"BarFigures$Ordering", "extend", "(III)V"⟩, 6) := ⟨⟨by decide +kernel, by decide +kernel⟩, List.mem_of_getElem? (i := 147) (by decide +kernel), List.mem_of_getElem? (i := 519) (by decide +kernel), List.mem_of_getElem? (i := 520) (by decide +kernel)⟩
theorem lw_p41 : lw_okq (⟨"BarFigures$Ordering", "fewest", "()I"⟩, 6) := ⟨⟨by decide +kernel, by decide +kernel⟩, List.mem_of_getElem? (i := 147) (by decide +kernel), List.mem_of_getElem? (i := 526) (by decide +kernel), List.mem_of_getElem? (i := 527) (by decide +kernel)⟩
theorem lw_p42 : lw_okq (⟨"BarFigures$Ordering", "placeOf", "(I)I"⟩, 6) := ⟨⟨by decide +kernel, by decide +kernel⟩, List.mem_of_getElem? (i := 147) (by decide +kernel), List.mem_of_getElem? (i := 530) (by decide +kernel), List.mem_of_getElem? (i := 531) (by decide +kernel)⟩
theorem lw_p43 : lw_okq (⟨"BarFigures$Readings", "add", "(III)I"⟩, 4) := ⟨⟨by decide +kernel, by decide +kernel⟩, List.mem_of_getElem? (i := 114) (by decide +kernel), List.mem_of_getElem? (i := 539) (by decide +kernel), List.mem_of_getElem? (i := 540) (by decide +kernel)⟩
theorem lw_p44 : lw_okq (⟨"BarFigures$Readings", "allAreSo", "(LBarFigures$Panel;III)Z"⟩, 4) := ⟨⟨by decide +kernel, by decide +kernel⟩, List.mem_of_getElem? (i := 114) (by decide +kernel), List.mem_of_getElem? (i := 551) (by decide +kernel), List.mem_of_getElem? (i := 552) (by decide +kernel)⟩
theorem lw_p45 : lw_okq (⟨"BarFigures$Panel", "lonePictures", "()I"⟩, 5) := ⟨⟨by decide +kernel, by decide +kernel⟩, List.mem_of_getElem? (i := 25) (by decide +kernel), List.mem_of_getElem? (i := 567) (by decide +kernel), List.mem_of_getElem? (i := 568) (by decide +kernel)⟩
theorem lw_p46 : lw_okq (⟨"BarFigures$Place", "loneDigits", "()I"⟩, 6) := ⟨⟨by decide +kernel, by decide +kernel⟩, List.mem_of_getElem? (i := 54) (by decide +kernel), List.mem_of_getElem? (i := 571) (by decide +kernel), List.mem_of_getElem? (i := 572) (by decide +kernel)⟩
theorem lw_p47 : lw_okq (⟨"BarFigures$Sheet", "renew", "(II)V"⟩, 3) := ⟨⟨by decide +kernel, by decide +kernel⟩, List.mem_of_getElem? (i := 171) (by decide +kernel), List.mem_of_getElem? (i := 582) (by decide +kernel), List.mem_of_getElem? (i := 583) (by decide +kernel)⟩
def lw_privs_3 : List (MethodName × Nat) := [(⟨"BarFigures$Sights", "fill", "(LBarFigures$Panel;LBarFigures$Sheet;II)Z"⟩, 2), (⟨"BarFigures$Sights", "begins", "(LBarFigures$Panel;II)I"⟩, 2), (⟨"BarFigures$Sights", "isBegin", "(LBarFigures$Panel;II)Z"⟩, 2), (⟨"BarFigures$Sights", "isRow", "(III)Z"⟩, 2), (⟨"BarFigures$Place", "fewestToMend", "()I"⟩, 6), (⟨"BarFigures$Place", "isClearIf", "(I)Z"⟩, 6), (⟨"BarFigures$Ordering", "fill", "(LBarFigures$Panel;LBarFigures$Sheet;II)Z"⟩, 6), (⟨"BarFigures$Ordering", "search", "()V"⟩, 6), (⟨"BarFigures$Ordering", "extend", "(III)V"⟩, 6), (⟨"BarFigures$Ordering", "fewest", "()I"⟩, 6), (⟨"BarFigures$Ordering", "placeOf", "(I)I"⟩, 6), (⟨"BarFigures$Readings", "add", "(III)I"⟩, 4), (⟨"BarFigures$Readings", "allAreSo", "(LBarFigures$Panel;III)Z"⟩, 4), (⟨"BarFigures$Panel", "lonePictures", "()I"⟩, 5), (⟨"BarFigures$Place", "loneDigits", "()I"⟩, 6), (⟨"BarFigures$Sheet", "renew", "(II)V"⟩, 3)]
theorem lw_r3 : ∀ q ∈ lw_privs_3, lw_okq q := List.forall_mem_cons.mpr ⟨lw_p32, List.forall_mem_cons.mpr ⟨lw_p33, List.forall_mem_cons.mpr ⟨lw_p34, List.forall_mem_cons.mpr ⟨lw_p35, List.forall_mem_cons.mpr ⟨lw_p36, List.forall_mem_cons.mpr ⟨lw_p37, List.forall_mem_cons.mpr ⟨lw_p38, List.forall_mem_cons.mpr ⟨lw_p39, List.forall_mem_cons.mpr ⟨lw_p40, List.forall_mem_cons.mpr ⟨lw_p41, List.forall_mem_cons.mpr ⟨lw_p42, List.forall_mem_cons.mpr ⟨lw_p43, List.forall_mem_cons.mpr ⟨lw_p44, List.forall_mem_cons.mpr ⟨lw_p45, List.forall_mem_cons.mpr ⟨lw_p46, List.forall_mem_cons.mpr ⟨lw_p47, fun _ h => absurd h List.not_mem_nil⟩⟩⟩⟩⟩⟩⟩⟩⟩⟩⟩⟩⟩⟩⟩⟩
theorem lw_p48 : lw_okq (⟨"BarFigures$Sheet", "dropRow", "()Z"⟩, 3) := ⟨⟨by decide +kernel, by decide +kernel⟩, List.mem_of_getElem? (i := 171) (by decide +kernel), List.mem_of_getElem? (i := 590) (by decide +kernel), List.mem_of_getElem? (i := 591) (by decide +kernel)⟩
theorem lw_p49 : lw_okq (⟨"BarFigures$Sheet", "write", "(II)V"⟩, 3) := ⟨⟨by decide +kernel, by decide +kernel⟩, List.mem_of_getElem? (i := 171) (by decide +kernel), List.mem_of_getElem? (i := 600) (by decide +kernel), List.mem_of_getElem? (i := 601) (by decide +kernel)⟩
theorem lw_p50 : lw_okq (⟨"BarFigures$Sheet", "takeCells", "(LBarFigures$Sheet;III)V"⟩, 3) := ⟨⟨by decide +kernel, by decide +kernel⟩, List.mem_of_getElem? (i := 171) (by decide +kernel), List.mem_of_getElem? (i := 613) (by decide +kernel), List.mem_of_getElem? (i := 614) (by decide +kernel)⟩
theorem lw_p51 : lw_okq (⟨"BarFigures", "turnedBody", "(LBarFigures$Place;)I"⟩, 7) := ⟨⟨by decide +kernel, by decide +kernel⟩, List.mem_of_getElem? (i := 15) (by decide +kernel), List.mem_of_getElem? (i := 622) (by decide +kernel), List.mem_of_getElem? (i := 623) (by decide +kernel)⟩
theorem lw_p52 : lw_okq (⟨"BarFigures", "leave", "(I)V"⟩, 7) := ⟨⟨by decide +kernel, by decide +kernel⟩, List.mem_of_getElem? (i := 15) (by decide +kernel), List.mem_of_getElem? (i := 626) (by decide +kernel), List.mem_of_getElem? (i := 627) (by decide +kernel)⟩
theorem lw_p53 : lw_okq (⟨"BarFigures", "mirroredBody", "(LBarFigures$Place;)I"⟩, 7) := ⟨⟨by decide +kernel, by decide +kernel⟩, List.mem_of_getElem? (i := 15) (by decide +kernel), List.mem_of_getElem? (i := 630) (by decide +kernel), List.mem_of_getElem? (i := 631) (by decide +kernel)⟩
theorem lw_p54 : lw_okq (⟨"BarFigures", "fairBody", "(LBarFigures$Place;)I"⟩, 7) := ⟨⟨by decide +kernel, by decide +kernel⟩, List.mem_of_getElem? (i := 15) (by decide +kernel), List.mem_of_getElem? (i := 634) (by decide +kernel), List.mem_of_getElem? (i := 635) (by decide +kernel)⟩
theorem lw_p55 : lw_okq (⟨"BarFigures$Panel", "deadBars", "()I"⟩, 5) := ⟨⟨by decide +kernel, by decide +kernel⟩, List.mem_of_getElem? (i := 25) (by decide +kernel), List.mem_of_getElem? (i := 658) (by decide +kernel), List.mem_of_getElem? (i := 659) (by decide +kernel)⟩
theorem lw_p56 : lw_okq (⟨"BarFiguresModel", "refused", "(I)I"⟩, 28) := ⟨⟨by decide +kernel, by decide +kernel⟩, List.mem_of_getElem? (i := 662) (by decide +kernel), List.mem_of_getElem? (i := 764) (by decide +kernel), List.mem_of_getElem? (i := 765) (by decide +kernel)⟩
theorem lw_p57 : lw_okq (⟨"BarFiguresModel", "cellsBarred", "(IIIJ)I"⟩, 28) := ⟨⟨by decide +kernel, by decide +kernel⟩, List.mem_of_getElem? (i := 662) (by decide +kernel), List.mem_of_getElem? (i := 769) (by decide +kernel), List.mem_of_getElem? (i := 770) (by decide +kernel)⟩
theorem lw_p58 : lw_okq (⟨"BarFiguresModel", "failed", "(I)I"⟩, 28) := ⟨⟨by decide +kernel, by decide +kernel⟩, List.mem_of_getElem? (i := 662) (by decide +kernel), List.mem_of_getElem? (i := 773) (by decide +kernel), List.mem_of_getElem? (i := 774) (by decide +kernel)⟩
theorem lw_p59 : lw_okq (⟨"BarFiguresModel", "lifeRead", "(II)I"⟩, 28) := ⟨⟨by decide +kernel, by decide +kernel⟩, List.mem_of_getElem? (i := 662) (by decide +kernel), List.mem_of_getElem? (i := 780) (by decide +kernel), List.mem_of_getElem? (i := 781) (by decide +kernel)⟩
theorem lw_p60 : lw_okq (⟨"BarFiguresModel", "codeAt", "(II)I"⟩, 28) := ⟨⟨by decide +kernel, by decide +kernel⟩, List.mem_of_getElem? (i := 662) (by decide +kernel), List.mem_of_getElem? (i := 784) (by decide +kernel), List.mem_of_getElem? (i := 785) (by decide +kernel)⟩
theorem lw_p61 : lw_okq (⟨"BarFiguresModel", "figure", "(IIIII)I"⟩, 28) := ⟨⟨by decide +kernel, by decide +kernel⟩, List.mem_of_getElem? (i := 662) (by decide +kernel), List.mem_of_getElem? (i := 788) (by decide +kernel), List.mem_of_getElem? (i := 789) (by decide +kernel)⟩
theorem lw_p62 : lw_okq (⟨"BarFiguresModel", "readsPlace", "(II)Z"⟩, 28) := ⟨⟨by decide +kernel, by decide +kernel⟩, List.mem_of_getElem? (i := 662) (by decide +kernel), List.mem_of_getElem? (i := 792) (by decide +kernel), List.mem_of_getElem? (i := 793) (by decide +kernel)⟩
theorem lw_p63 : lw_okq (⟨"BarFiguresModel", "barsRead", "(II)I"⟩, 28) := ⟨⟨by decide +kernel, by decide +kernel⟩, List.mem_of_getElem? (i := 662) (by decide +kernel), List.mem_of_getElem? (i := 796) (by decide +kernel), List.mem_of_getElem? (i := 797) (by decide +kernel)⟩
def lw_privs_4 : List (MethodName × Nat) := [(⟨"BarFigures$Sheet", "dropRow", "()Z"⟩, 3), (⟨"BarFigures$Sheet", "write", "(II)V"⟩, 3), (⟨"BarFigures$Sheet", "takeCells", "(LBarFigures$Sheet;III)V"⟩, 3), (⟨"BarFigures", "turnedBody", "(LBarFigures$Place;)I"⟩, 7), (⟨"BarFigures", "leave", "(I)V"⟩, 7), (⟨"BarFigures", "mirroredBody", "(LBarFigures$Place;)I"⟩, 7), (⟨"BarFigures", "fairBody", "(LBarFigures$Place;)I"⟩, 7), (⟨"BarFigures$Panel", "deadBars", "()I"⟩, 5), (⟨"BarFiguresModel", "refused", "(I)I"⟩, 28), (⟨"BarFiguresModel", "cellsBarred", "(IIIJ)I"⟩, 28), (⟨"BarFiguresModel", "failed", "(I)I"⟩, 28), (⟨"BarFiguresModel", "lifeRead", "(II)I"⟩, 28), (⟨"BarFiguresModel", "codeAt", "(II)I"⟩, 28), (⟨"BarFiguresModel", "figure", "(IIIII)I"⟩, 28), (⟨"BarFiguresModel", "readsPlace", "(II)Z"⟩, 28), (⟨"BarFiguresModel", "barsRead", "(II)I"⟩, 28)]
theorem lw_r4 : ∀ q ∈ lw_privs_4, lw_okq q := List.forall_mem_cons.mpr ⟨lw_p48, List.forall_mem_cons.mpr ⟨lw_p49, List.forall_mem_cons.mpr ⟨lw_p50, List.forall_mem_cons.mpr ⟨lw_p51, List.forall_mem_cons.mpr ⟨lw_p52, List.forall_mem_cons.mpr ⟨lw_p53, List.forall_mem_cons.mpr ⟨lw_p54, List.forall_mem_cons.mpr ⟨lw_p55, List.forall_mem_cons.mpr ⟨lw_p56, List.forall_mem_cons.mpr ⟨lw_p57, List.forall_mem_cons.mpr ⟨lw_p58, List.forall_mem_cons.mpr ⟨lw_p59, List.forall_mem_cons.mpr ⟨lw_p60, List.forall_mem_cons.mpr ⟨lw_p61, List.forall_mem_cons.mpr ⟨lw_p62, List.forall_mem_cons.mpr ⟨lw_p63, fun _ h => absurd h List.not_mem_nil⟩⟩⟩⟩⟩⟩⟩⟩⟩⟩⟩⟩⟩⟩⟩⟩
theorem lw_p64 : lw_okq (⟨"BarFiguresModel", "noPlace", "(I)Z"⟩, 28) := ⟨⟨by decide +kernel, by decide +kernel⟩, List.mem_of_getElem? (i := 662) (by decide +kernel), List.mem_of_getElem? (i := 804) (by decide +kernel), List.mem_of_getElem? (i := 805) (by decide +kernel)⟩
theorem lw_p65 : lw_okq (⟨"BarFiguresModel", "unlikeAt", "(I)I"⟩, 28) := ⟨⟨by decide +kernel, by decide +kernel⟩, List.mem_of_getElem? (i := 662) (by decide +kernel), List.mem_of_getElem? (i := 808) (by decide +kernel), List.mem_of_getElem? (i := 809) (by decide +kernel)⟩
theorem lw_p66 : lw_okq (⟨"BarFiguresModel", "burnsAt", "(II)I"⟩, 28) := ⟨⟨by decide +kernel, by decide +kernel⟩, List.mem_of_getElem? (i := 662) (by decide +kernel), List.mem_of_getElem? (i := 812) (by decide +kernel), List.mem_of_getElem? (i := 813) (by decide +kernel)⟩
theorem lw_p67 : lw_okq (⟨"BarFiguresModel", "digitAt", "(II)I"⟩, 28) := ⟨⟨by decide +kernel, by decide +kernel⟩, List.mem_of_getElem? (i := 662) (by decide +kernel), List.mem_of_getElem? (i := 831) (by decide +kernel), List.mem_of_getElem? (i := 832) (by decide +kernel)⟩
theorem lw_p68 : lw_okq (⟨"BarFiguresModel", "ten", "(I)I"⟩, 28) := ⟨⟨by decide +kernel, by decide +kernel⟩, List.mem_of_getElem? (i := 662) (by decide +kernel), List.mem_of_getElem? (i := 835) (by decide +kernel), List.mem_of_getElem? (i := 836) (by decide +kernel)⟩
theorem lw_p69 : lw_okq (⟨"BarFiguresModel", "digitsOf", "(II)I"⟩, 28) := ⟨⟨by decide +kernel, by decide +kernel⟩, List.mem_of_getElem? (i := 662) (by decide +kernel), List.mem_of_getElem? (i := 865) (by decide +kernel), List.mem_of_getElem? (i := 866) (by decide +kernel)⟩
theorem lw_p70 : lw_okq (⟨"BarFiguresModel", "noNumber", "(I)Z"⟩, 28) := ⟨⟨by decide +kernel, by decide +kernel⟩, List.mem_of_getElem? (i := 662) (by decide +kernel), List.mem_of_getElem? (i := 873) (by decide +kernel), List.mem_of_getElem? (i := 874) (by decide +kernel)⟩
theorem lw_p71 : lw_okq (⟨"BarFiguresModel", "last", "()I"⟩, 28) := ⟨⟨by decide +kernel, by decide +kernel⟩, List.mem_of_getElem? (i := 662) (by decide +kernel), List.mem_of_getElem? (i := 877) (by decide +kernel), List.mem_of_getElem? (i := 878) (by decide +kernel)⟩
theorem lw_p72 : lw_okq (⟨"BarFiguresModel", "flipsOf", "(II)I"⟩, 28) := ⟨⟨by decide +kernel, by decide +kernel⟩, List.mem_of_getElem? (i := 662) (by decide +kernel), List.mem_of_getElem? (i := 893) (by decide +kernel), List.mem_of_getElem? (i := 894) (by decide +kernel)⟩
theorem lw_p73 : lw_okq (⟨"BarFiguresModel", "deadNow", "()I"⟩, 28) := ⟨⟨by decide +kernel, by decide +kernel⟩, List.mem_of_getElem? (i := 662) (by decide +kernel), List.mem_of_getElem? (i := 918) (by decide +kernel), List.mem_of_getElem? (i := 919) (by decide +kernel)⟩
theorem lw_p74 : lw_okq (⟨"BarFiguresModel", "step", "()V"⟩, 28) := ⟨⟨by decide +kernel, by decide +kernel⟩, List.mem_of_getElem? (i := 662) (by decide +kernel), List.mem_of_getElem? (i := 922) (by decide +kernel), List.mem_of_getElem? (i := 923) (by decide +kernel)⟩
theorem lw_p75 : lw_okq (⟨"BarFiguresModel", "wears", "(II)V"⟩, 28) := ⟨⟨by decide +kernel, by decide +kernel⟩, List.mem_of_getElem? (i := 662) (by decide +kernel), List.mem_of_getElem? (i := 926) (by decide +kernel), List.mem_of_getElem? (i := 927) (by decide +kernel)⟩
theorem lw_p76 : lw_okq (⟨"BarFiguresModel", "diesAt", "(II)I"⟩, 28) := ⟨⟨by decide +kernel, by decide +kernel⟩, List.mem_of_getElem? (i := 662) (by decide +kernel), List.mem_of_getElem? (i := 934) (by decide +kernel), List.mem_of_getElem? (i := 935) (by decide +kernel)⟩
theorem lw_p77 : lw_okq (⟨"BarFiguresModel", "keepAll", "()V"⟩, 28) := ⟨⟨by decide +kernel, by decide +kernel⟩, List.mem_of_getElem? (i := 662) (by decide +kernel), List.mem_of_getElem? (i := 938) (by decide +kernel), List.mem_of_getElem? (i := 939) (by decide +kernel)⟩
theorem lw_p78 : lw_okq (⟨"BarFiguresModel", "bringBack", "()V"⟩, 28) := ⟨⟨by decide +kernel, by decide +kernel⟩, List.mem_of_getElem? (i := 662) (by decide +kernel), List.mem_of_getElem? (i := 942) (by decide +kernel), List.mem_of_getElem? (i := 943) (by decide +kernel)⟩
theorem lw_p79 : lw_okq (⟨"BarFiguresModel", "firstDead", "()I"⟩, 28) := ⟨⟨by decide +kernel, by decide +kernel⟩, List.mem_of_getElem? (i := 662) (by decide +kernel), List.mem_of_getElem? (i := 950) (by decide +kernel), List.mem_of_getElem? (i := 951) (by decide +kernel)⟩
def lw_privs_5 : List (MethodName × Nat) := [(⟨"BarFiguresModel", "noPlace", "(I)Z"⟩, 28), (⟨"BarFiguresModel", "unlikeAt", "(I)I"⟩, 28), (⟨"BarFiguresModel", "burnsAt", "(II)I"⟩, 28), (⟨"BarFiguresModel", "digitAt", "(II)I"⟩, 28), (⟨"BarFiguresModel", "ten", "(I)I"⟩, 28), (⟨"BarFiguresModel", "digitsOf", "(II)I"⟩, 28), (⟨"BarFiguresModel", "noNumber", "(I)Z"⟩, 28), (⟨"BarFiguresModel", "last", "()I"⟩, 28), (⟨"BarFiguresModel", "flipsOf", "(II)I"⟩, 28), (⟨"BarFiguresModel", "deadNow", "()I"⟩, 28), (⟨"BarFiguresModel", "step", "()V"⟩, 28), (⟨"BarFiguresModel", "wears", "(II)V"⟩, 28), (⟨"BarFiguresModel", "diesAt", "(II)I"⟩, 28), (⟨"BarFiguresModel", "keepAll", "()V"⟩, 28), (⟨"BarFiguresModel", "bringBack", "()V"⟩, 28), (⟨"BarFiguresModel", "firstDead", "()I"⟩, 28)]
theorem lw_r5 : ∀ q ∈ lw_privs_5, lw_okq q := List.forall_mem_cons.mpr ⟨lw_p64, List.forall_mem_cons.mpr ⟨lw_p65, List.forall_mem_cons.mpr ⟨lw_p66, List.forall_mem_cons.mpr ⟨lw_p67, List.forall_mem_cons.mpr ⟨lw_p68, List.forall_mem_cons.mpr ⟨lw_p69, List.forall_mem_cons.mpr ⟨lw_p70, List.forall_mem_cons.mpr ⟨lw_p71, List.forall_mem_cons.mpr ⟨lw_p72, List.forall_mem_cons.mpr ⟨lw_p73, List.forall_mem_cons.mpr ⟨lw_p74, List.forall_mem_cons.mpr ⟨lw_p75, List.forall_mem_cons.mpr ⟨lw_p76, List.forall_mem_cons.mpr ⟨lw_p77, List.forall_mem_cons.mpr ⟨lw_p78, List.forall_mem_cons.mpr ⟨lw_p79, fun _ h => absurd h List.not_mem_nil⟩⟩⟩⟩⟩⟩⟩⟩⟩⟩⟩⟩⟩⟩⟩⟩
theorem lw_p80 : lw_okq (⟨"BarFiguresModel", "beginsBy", "(IIII)I"⟩, 28) := ⟨⟨by decide +kernel, by decide +kernel⟩, List.mem_of_getElem? (i := 662) (by decide +kernel), List.mem_of_getElem? (i := 960) (by decide +kernel), List.mem_of_getElem? (i := 961) (by decide +kernel)⟩
theorem lw_p81 : lw_okq (⟨"BarFiguresModel", "begins", "(IIII)Z"⟩, 28) := ⟨⟨by decide +kernel, by decide +kernel⟩, List.mem_of_getElem? (i := 662) (by decide +kernel), List.mem_of_getElem? (i := 964) (by decide +kernel), List.mem_of_getElem? (i := 965) (by decide +kernel)⟩
theorem lw_p82 : lw_okq (⟨"BarFiguresModel", "orderBy", "(III)I"⟩, 28) := ⟨⟨by decide +kernel, by decide +kernel⟩, List.mem_of_getElem? (i := 662) (by decide +kernel), List.mem_of_getElem? (i := 977) (by decide +kernel), List.mem_of_getElem? (i := 978) (by decide +kernel)⟩
theorem lw_p83 : lw_okq (⟨"BarFiguresModel", "orderFlips", "(I)I"⟩, 28) := ⟨⟨by decide +kernel, by decide +kernel⟩, List.mem_of_getElem? (i := 662) (by decide +kernel), List.mem_of_getElem? (i := 981) (by decide +kernel), List.mem_of_getElem? (i := 982) (by decide +kernel)⟩
theorem lw_p84 : lw_okq (⟨"BarFiguresModel", "nextOrder", "(I)Z"⟩, 28) := ⟨⟨by decide +kernel, by decide +kernel⟩, List.mem_of_getElem? (i := 662) (by decide +kernel), List.mem_of_getElem? (i := 985) (by decide +kernel), List.mem_of_getElem? (i := 986) (by decide +kernel)⟩
theorem lw_p85 : lw_okq (⟨"BarFiguresModel", "exchange", "(II)V"⟩, 28) := ⟨⟨by decide +kernel, by decide +kernel⟩, List.mem_of_getElem? (i := 662) (by decide +kernel), List.mem_of_getElem? (i := 989) (by decide +kernel), List.mem_of_getElem? (i := 990) (by decide +kernel)⟩
theorem lw_p86 : lw_okq (⟨"BarFiguresModel", "deadsOf", "(II)I"⟩, 28) := ⟨⟨by decide +kernel, by decide +kernel⟩, List.mem_of_getElem? (i := 662) (by decide +kernel), List.mem_of_getElem? (i := 1005) (by decide +kernel), List.mem_of_getElem? (i := 1006) (by decide +kernel)⟩
theorem lw_p87 : lw_okq (⟨"BarFiguresModel", "areSo", "()Z"⟩, 28) := ⟨⟨by decide +kernel, by decide +kernel⟩, List.mem_of_getElem? (i := 662) (by decide +kernel), List.mem_of_getElem? (i := 1009) (by decide +kernel), List.mem_of_getElem? (i := 1010) (by decide +kernel)⟩
theorem lw_p88 : lw_okq (⟨"BarFiguresModel", "noCell", "(II)I"⟩, 28) := ⟨⟨by decide +kernel, by decide +kernel⟩, List.mem_of_getElem? (i := 662) (by decide +kernel), List.mem_of_getElem? (i := 1040) (by decide +kernel), List.mem_of_getElem? (i := 1041) (by decide +kernel)⟩
theorem lw_p89 : lw_okq (⟨"BarFiguresModel", "failedLong", "(I)J"⟩, 28) := ⟨⟨by decide +kernel, by decide +kernel⟩, List.mem_of_getElem? (i := 662) (by decide +kernel), List.mem_of_getElem? (i := 1048) (by decide +kernel), List.mem_of_getElem? (i := 1049) (by decide +kernel)⟩
theorem lw_p90 : lw_okq (⟨"BarFiguresModel", "traced", "(I)V"⟩, 28) := ⟨⟨by decide +kernel, by decide +kernel⟩, List.mem_of_getElem? (i := 662) (by decide +kernel), List.mem_of_getElem? (i := 1060) (by decide +kernel), List.mem_of_getElem? (i := 1061) (by decide +kernel)⟩
def lw_privs_6 : List (MethodName × Nat) := [(⟨"BarFiguresModel", "beginsBy", "(IIII)I"⟩, 28), (⟨"BarFiguresModel", "begins", "(IIII)Z"⟩, 28), (⟨"BarFiguresModel", "orderBy", "(III)I"⟩, 28), (⟨"BarFiguresModel", "orderFlips", "(I)I"⟩, 28), (⟨"BarFiguresModel", "nextOrder", "(I)Z"⟩, 28), (⟨"BarFiguresModel", "exchange", "(II)V"⟩, 28), (⟨"BarFiguresModel", "deadsOf", "(II)I"⟩, 28), (⟨"BarFiguresModel", "areSo", "()Z"⟩, 28), (⟨"BarFiguresModel", "noCell", "(II)I"⟩, 28), (⟨"BarFiguresModel", "failedLong", "(I)J"⟩, 28), (⟨"BarFiguresModel", "traced", "(I)V"⟩, 28)]
theorem lw_r6 : ∀ q ∈ lw_privs_6, lw_okq q := List.forall_mem_cons.mpr ⟨lw_p80, List.forall_mem_cons.mpr ⟨lw_p81, List.forall_mem_cons.mpr ⟨lw_p82, List.forall_mem_cons.mpr ⟨lw_p83, List.forall_mem_cons.mpr ⟨lw_p84, List.forall_mem_cons.mpr ⟨lw_p85, List.forall_mem_cons.mpr ⟨lw_p86, List.forall_mem_cons.mpr ⟨lw_p87, List.forall_mem_cons.mpr ⟨lw_p88, List.forall_mem_cons.mpr ⟨lw_p89, List.forall_mem_cons.mpr ⟨lw_p90, fun _ h => absurd h List.not_mem_nil⟩⟩⟩⟩⟩⟩⟩⟩⟩⟩⟩
def lw_privs : List (MethodName × Nat) := lw_privs_1 ++ (lw_privs_2 ++ (lw_privs_3 ++ (lw_privs_4 ++ (lw_privs_5 ++ (lw_privs_6)))))
def lw_tbl : List Cond := k2_sels lw_privs ++ tables_1
theorem lw_privs_ok : ∀ q ∈ lw_privs, lw_okq q := by
  show ∀ q ∈ lw_privs_1 ++ (lw_privs_2 ++ (lw_privs_3 ++ (lw_privs_4 ++ (lw_privs_5 ++ (lw_privs_6))))), lw_okq q
  exact List.forall_mem_append.mpr ⟨lw_r1, List.forall_mem_append.mpr ⟨lw_r2, List.forall_mem_append.mpr ⟨lw_r3, List.forall_mem_append.mpr ⟨lw_r4, List.forall_mem_append.mpr ⟨lw_r5, lw_r6⟩⟩⟩⟩⟩
end
section
def RX0 : String := "BarFigures$Looks"
def TX0 : u_T := fun k => match k with
  | _ => ("BarFigures$Looks", "sets", "[I", true)
def tyX0 : Nat → FieldType := fun k => match k with
  | _ => .array .int
theorem nmX0 : ∀ a, a < 1 → ∀ b, b < 1 → a ≠ b → (TX0 a).2.1 ≠ (TX0 b).2.1 := by decide +kernel
theorem tyX0_ok : ∀ k, k < 1 → parseFieldDescriptor (TX0 k).2.2.1 = some (tyX0 k) := by decide +kernel
abbrev cX0_init : ByteArray := prog_2_method_1_code
def yX0_init : MethodName := ⟨RX0, "<init>", "()V"⟩
abbrev cX0_look : ByteArray := prog_2_method_2_code
def yX0_look : MethodName := ⟨RX0, "look", "(II)I"⟩
abbrev cX0_leftRight : ByteArray := prog_2_method_3_code
def yX0_leftRight : MethodName := ⟨RX0, "leftRight", "(I)I"⟩
abbrev cX0_topBottom : ByteArray := prog_2_method_4_code
def yX0_topBottom : MethodName := ⟨RX0, "topBottom", "(I)I"⟩
abbrev cX0_exchanged : ByteArray := prog_2_method_5_code
def yX0_exchanged : MethodName := ⟨RX0, "exchanged", "(III)I"⟩
def RX1 : String := "BarFigures$Ordering"
def TX1 : u_T := fun k => match k with
  | 0 => ("BarFigures$Ordering", "numbers", "[I", true)
  | 1 => ("BarFigures$Ordering", "gaps", "[I", true)
  | 2 => ("BarFigures$Ordering", "row", "[I", true)
  | 3 => ("BarFigures$Ordering", "best", "[I", true)
  | 4 => ("BarFigures$Ordering", "count", "I", false)
  | _ => ("BarFigures$Ordering", "least", "I", false)
def tyX1 : Nat → FieldType := fun k => match k with
  | 0 => .array .int
  | 1 => .array .int
  | 2 => .array .int
  | 3 => .array .int
  | 4 => .int
  | _ => .int
theorem nmX1 : ∀ a, a < 6 → ∀ b, b < 6 → a ≠ b → (TX1 a).2.1 ≠ (TX1 b).2.1 := by decide +kernel
theorem tyX1_ok : ∀ k, k < 6 → parseFieldDescriptor (TX1 k).2.2.1 = some (tyX1 k) := by decide +kernel
abbrev cX1_init : ByteArray := prog_3_method_1_code
def yX1_init : MethodName := ⟨RX1, "<init>", "()V"⟩
abbrev cX1_fill : ByteArray := prog_3_method_2_code
def yX1_fill : MethodName := ⟨RX1, "fill", "(LBarFigures$Panel;LBarFigures$Sheet;II)Z"⟩
abbrev cX1_search : ByteArray := prog_3_method_3_code
def yX1_search : MethodName := ⟨RX1, "search", "()V"⟩
abbrev cX1_extend : ByteArray := prog_3_method_4_code
def yX1_extend : MethodName := ⟨RX1, "extend", "(III)V"⟩
abbrev cX1_fewest : ByteArray := prog_3_method_5_code
def yX1_fewest : MethodName := ⟨RX1, "fewest", "()I"⟩
abbrev cX1_placeOf : ByteArray := prog_3_method_6_code
def yX1_placeOf : MethodName := ⟨RX1, "placeOf", "(I)I"⟩
def RX2 : String := "BarFigures$Panel"
def TX2 : u_T := fun k => match k with
  | 0 => ("BarFigures$Panel", "places", "[LBarFigures$Place;", true)
  | 1 => ("BarFigures$Panel", "count", "I", false)
  | 2 => ("BarFigures$Panel", "life", "I", false)
  | 3 => ("BarFigures$Panel", "shown", "I", false)
  | _ => ("BarFigures$Panel", "last", "I", false)
def tyX2 : Nat → FieldType := fun k => match k with
  | 0 => .array (.object "BarFigures$Place")
  | 1 => .int
  | 2 => .int
  | 3 => .int
  | _ => .int
theorem nmX2 : ∀ a, a < 5 → ∀ b, b < 5 → a ≠ b → (TX2 a).2.1 ≠ (TX2 b).2.1 := by decide +kernel
theorem tyX2_ok : ∀ k, k < 5 → parseFieldDescriptor (TX2 k).2.2.1 = some (tyX2 k) := by decide +kernel
abbrev cX2_init : ByteArray := prog_4_method_1_code
def yX2_init : MethodName := ⟨RX2, "<init>", "()V"⟩
abbrev cX2_renew : ByteArray := prog_4_method_2_code
def yX2_renew : MethodName := ⟨RX2, "renew", "(II)V"⟩
abbrev cX2_isNone : ByteArray := prog_4_method_3_code
def yX2_isNone : MethodName := ⟨RX2, "isNone", "()Z"⟩
abbrev cX2_isNumber : ByteArray := prog_4_method_4_code
def yX2_isNumber : MethodName := ⟨RX2, "isNumber", "(I)Z"⟩
abbrev cX2_digitOf : ByteArray := prog_4_method_5_code
def yX2_digitOf : MethodName := ⟨RX2, "digitOf", "(II)I"⟩
abbrev cX2_deadBars : ByteArray := prog_4_method_6_code
def yX2_deadBars : MethodName := ⟨RX2, "deadBars", "()I"⟩
abbrev cX2_litBars : ByteArray := prog_4_method_7_code
def yX2_litBars : MethodName := ⟨RX2, "litBars", "(I)I"⟩
abbrev cX2_flipsBetween : ByteArray := prog_4_method_8_code
def yX2_flipsBetween : MethodName := ⟨RX2, "flipsBetween", "(II)I"⟩
abbrev cX2_nextDigit : ByteArray := prog_4_method_9_code
def yX2_nextDigit : MethodName := ⟨RX2, "nextDigit", "(I)I"⟩
abbrev cX2_flipsOfStep : ByteArray := prog_4_method_10_code
def yX2_flipsOfStep : MethodName := ⟨RX2, "flipsOfStep", "(I)I"⟩
abbrev cX2_makeStep : ByteArray := prog_4_method_11_code
def yX2_makeStep : MethodName := ⟨RX2, "makeStep", "()I"⟩
abbrev cX2_numberAfter : ByteArray := prog_4_method_12_code
def yX2_numberAfter : MethodName := ⟨RX2, "numberAfter", "(I)I"⟩
abbrev cX2_stepsToDeath : ByteArray := prog_4_method_13_code
def yX2_stepsToDeath : MethodName := ⟨RX2, "stepsToDeath", "(III)I"⟩
abbrev cX2_countAlike : ByteArray := prog_4_method_14_code
def yX2_countAlike : MethodName := ⟨RX2, "countAlike", "(I)I"⟩
abbrev cX2_digitsAlike : ByteArray := prog_4_method_15_code
def yX2_digitsAlike : MethodName := ⟨RX2, "digitsAlike", "(II)I"⟩
abbrev cX2_numberAlike : ByteArray := prog_4_method_16_code
def yX2_numberAlike : MethodName := ⟨RX2, "numberAlike", "(II)I"⟩
abbrev cX2_memberOf : ByteArray := prog_4_method_17_code
def yX2_memberOf : MethodName := ⟨RX2, "memberOf", "(II)I"⟩
abbrev cX2_nearestTo : ByteArray := prog_4_method_18_code
def yX2_nearestTo : MethodName := ⟨RX2, "nearestTo", "(I)I"⟩
abbrev cX2_nearestUnlike : ByteArray := prog_4_method_19_code
def yX2_nearestUnlike : MethodName := ⟨RX2, "nearestUnlike", "(I)I"⟩
abbrev cX2_unlikePictures : ByteArray := prog_4_method_20_code
def yX2_unlikePictures : MethodName := ⟨RX2, "unlikePictures", "()I"⟩
abbrev cX2_lonePictures : ByteArray := prog_4_method_21_code
def yX2_lonePictures : MethodName := ⟨RX2, "lonePictures", "()I"⟩
def RX3 : String := "BarFigures$Place"
def TX3 : u_T := fun k => match k with
  | 0 => ("BarFigures$Place", "looks", "LBarFigures$Looks;", true)
  | 1 => ("BarFigures$Place", "lits", "[I", true)
  | 2 => ("BarFigures$Place", "wears", "[I", true)
  | 3 => ("BarFigures$Place", "kind", "I", false)
  | 4 => ("BarFigures$Place", "dead", "I", false)
  | _ => ("BarFigures$Place", "stuck", "I", false)
def tyX3 : Nat → FieldType := fun k => match k with
  | 0 => .object "BarFigures$Looks"
  | 1 => .array .int
  | 2 => .array .int
  | 3 => .int
  | 4 => .int
  | _ => .int
theorem nmX3 : ∀ a, a < 6 → ∀ b, b < 6 → a ≠ b → (TX3 a).2.1 ≠ (TX3 b).2.1 := by decide +kernel
theorem tyX3_ok : ∀ k, k < 6 → parseFieldDescriptor (TX3 k).2.2.1 = some (tyX3 k) := by decide +kernel
abbrev cX3_init : ByteArray := prog_5_method_1_code
def yX3_init : MethodName := ⟨RX3, "<init>", "(LBarFigures$Looks;)V"⟩
abbrev cX3_renew : ByteArray := prog_5_method_2_code
def yX3_renew : MethodName := ⟨RX3, "renew", "(III)V"⟩
abbrev cX3_light : ByteArray := prog_5_method_3_code
def yX3_light : MethodName := ⟨RX3, "light", "()V"⟩
abbrev cX3_lit : ByteArray := prog_5_method_4_code
def yX3_lit : MethodName := ⟨RX3, "lit", "(I)I"⟩
abbrev cX3_litIf : ByteArray := prog_5_method_5_code
def yX3_litIf : MethodName := ⟨RX3, "litIf", "(III)I"⟩
abbrev cX3_digitsOf : ByteArray := prog_5_method_6_code
def yX3_digitsOf : MethodName := ⟨RX3, "digitsOf", "(I)I"⟩
abbrev cX3_unlikeSets : ByteArray := prog_5_method_7_code
def yX3_unlikeSets : MethodName := ⟨RX3, "unlikeSets", "()I"⟩
abbrev cX3_loneDigits : ByteArray := prog_5_method_8_code
def yX3_loneDigits : MethodName := ⟨RX3, "loneDigits", "()I"⟩
abbrev cX3_exchangeDead : ByteArray := prog_5_method_9_code
def yX3_exchangeDead : MethodName := ⟨RX3, "exchangeDead", "(I)I"⟩
abbrev cX3_exchangeStuck : ByteArray := prog_5_method_10_code
def yX3_exchangeStuck : MethodName := ⟨RX3, "exchangeStuck", "(I)I"⟩
abbrev cX3_wearBetween : ByteArray := prog_5_method_11_code
def yX3_wearBetween : MethodName := ⟨RX3, "wearBetween", "(III)I"⟩
abbrev cX3_isClearIf : ByteArray := prog_5_method_12_code
def yX3_isClearIf : MethodName := ⟨RX3, "isClearIf", "(I)Z"⟩
abbrev cX3_fewestToMend : ByteArray := prog_5_method_13_code
def yX3_fewestToMend : MethodName := ⟨RX3, "fewestToMend", "()I"⟩
def RX4 : String := "BarFigures$Readings"
def TX4 : u_T := fun k => match k with
  | 0 => ("BarFigures$Readings", "places", "[I", true)
  | 1 => ("BarFigures$Readings", "digits", "[I", true)
  | 2 => ("BarFigures$Readings", "sets", "[I", true)
  | _ => ("BarFigures$Readings", "count", "I", false)
def tyX4 : Nat → FieldType := fun k => match k with
  | 0 => .array .int
  | 1 => .array .int
  | 2 => .array .int
  | _ => .int
theorem nmX4 : ∀ a, a < 4 → ∀ b, b < 4 → a ≠ b → (TX4 a).2.1 ≠ (TX4 b).2.1 := by decide +kernel
theorem tyX4_ok : ∀ k, k < 4 → parseFieldDescriptor (TX4 k).2.2.1 = some (tyX4 k) := by decide +kernel
abbrev cX4_init : ByteArray := prog_6_method_1_code
def yX4_init : MethodName := ⟨RX4, "<init>", "()V"⟩
abbrev cX4_add : ByteArray := prog_6_method_2_code
def yX4_add : MethodName := ⟨RX4, "add", "(III)I"⟩
abbrev cX4_allAreSo : ByteArray := prog_6_method_3_code
def yX4_allAreSo : MethodName := ⟨RX4, "allAreSo", "(LBarFigures$Panel;III)Z"⟩
def RX5 : String := "BarFigures$Sheet"
def TX5 : u_T := fun k => match k with
  | 0 => ("BarFigures$Sheet", "cells", "[I", true)
  | 1 => ("BarFigures$Sheet", "size", "I", false)
  | _ => ("BarFigures$Sheet", "lane", "I", false)
def tyX5 : Nat → FieldType := fun k => match k with
  | 0 => .array .int
  | 1 => .int
  | _ => .int
theorem nmX5 : ∀ a, a < 3 → ∀ b, b < 3 → a ≠ b → (TX5 a).2.1 ≠ (TX5 b).2.1 := by decide +kernel
theorem tyX5_ok : ∀ k, k < 3 → parseFieldDescriptor (TX5 k).2.2.1 = some (tyX5 k) := by decide +kernel
abbrev cX5_init : ByteArray := prog_7_method_1_code
def yX5_init : MethodName := ⟨RX5, "<init>", "()V"⟩
abbrev cX5_isNothing : ByteArray := prog_7_method_2_code
def yX5_isNothing : MethodName := ⟨RX5, "isNothing", "()Z"⟩
abbrev cX5_renew : ByteArray := prog_7_method_3_code
def yX5_renew : MethodName := ⟨RX5, "renew", "(II)V"⟩
abbrev cX5_dropRow : ByteArray := prog_7_method_4_code
def yX5_dropRow : MethodName := ⟨RX5, "dropRow", "()Z"⟩
abbrev cX5_hasCells : ByteArray := prog_7_method_5_code
def yX5_hasCells : MethodName := ⟨RX5, "hasCells", "(II)Z"⟩
abbrev cX5_faultOfCells : ByteArray := prog_7_method_6_code
def yX5_faultOfCells : MethodName := ⟨RX5, "faultOfCells", "(III)I"⟩
abbrev cX5_read : ByteArray := prog_7_method_7_code
def yX5_read : MethodName := ⟨RX5, "read", "(I)I"⟩
abbrev cX5_write : ByteArray := prog_7_method_8_code
def yX5_write : MethodName := ⟨RX5, "write", "(II)V"⟩
abbrev cX5_takeCells : ByteArray := prog_7_method_9_code
def yX5_takeCells : MethodName := ⟨RX5, "takeCells", "(LBarFigures$Sheet;III)V"⟩
def RX6 : String := "BarFigures$Sights"
def TX6 : u_T := fun k => match k with
  | 0 => ("BarFigures$Sights", "fits", "[I", true)
  | _ => ("BarFigures$Sights", "rows", "I", false)
def tyX6 : Nat → FieldType := fun k => match k with
  | 0 => .array .int
  | _ => .int
theorem nmX6 : ∀ a, a < 2 → ∀ b, b < 2 → a ≠ b → (TX6 a).2.1 ≠ (TX6 b).2.1 := by decide +kernel
theorem tyX6_ok : ∀ k, k < 2 → parseFieldDescriptor (TX6 k).2.2.1 = some (tyX6 k) := by decide +kernel
abbrev cX6_init : ByteArray := prog_8_method_1_code
def yX6_init : MethodName := ⟨RX6, "<init>", "()V"⟩
abbrev cX6_fill : ByteArray := prog_8_method_2_code
def yX6_fill : MethodName := ⟨RX6, "fill", "(LBarFigures$Panel;LBarFigures$Sheet;II)Z"⟩
abbrev cX6_begins : ByteArray := prog_8_method_3_code
def yX6_begins : MethodName := ⟨RX6, "begins", "(LBarFigures$Panel;II)I"⟩
abbrev cX6_isBegin : ByteArray := prog_8_method_4_code
def yX6_isBegin : MethodName := ⟨RX6, "isBegin", "(LBarFigures$Panel;II)Z"⟩
abbrev cX6_isRow : ByteArray := prog_8_method_5_code
def yX6_isRow : MethodName := ⟨RX6, "isRow", "(III)Z"⟩
def RX7 : String := "BarFigures$Text"
def TX7 : u_T := fun k => match k with
  | _ => ("", "", "", false)
def tyX7 : Nat → FieldType := fun k => match k with
  | _ => .int
theorem nmX7 : ∀ a, a < 0 → ∀ b, b < 0 → a ≠ b → (TX7 a).2.1 ≠ (TX7 b).2.1 := by decide +kernel
theorem tyX7_ok : ∀ k, k < 0 → parseFieldDescriptor (TX7 k).2.2.1 = some (tyX7 k) := by decide +kernel
abbrev cX7_firstFault : ByteArray := prog_9_method_2_code
def yX7_firstFault : MethodName := ⟨RX7, "firstFault", "(LBarFigures$Sheet;II)I"⟩
abbrev cX7_goesOn : ByteArray := prog_9_method_3_code
def yX7_goesOn : MethodName := ⟨RX7, "goesOn", "(LBarFigures$Sheet;II)Z"⟩
abbrev cX7_isDigit : ByteArray := prog_9_method_4_code
def yX7_isDigit : MethodName := ⟨RX7, "isDigit", "(I)Z"⟩
abbrev cX7_number : ByteArray := prog_9_method_5_code
def yX7_number : MethodName := ⟨RX7, "number", "(LBarFigures$Sheet;II)I"⟩
abbrev cX7_kindOf : ByteArray := prog_9_method_6_code
def yX7_kindOf : MethodName := ⟨RX7, "kindOf", "(I)I"⟩
abbrev cX7_fill : ByteArray := prog_9_method_7_code
def yX7_fill : MethodName := ⟨RX7, "fill", "(LBarFigures$Panel;LBarFigures$Sheet;II)V"⟩
def RX8 : String := "BarFigures"
def TX8 : u_T := fun k => match k with
  | 0 => ("BarFigures", "sheets", "[LBarFigures$Sheet;", true)
  | 1 => ("BarFigures", "panel", "LBarFigures$Panel;", true)
  | 2 => ("BarFigures", "readings", "LBarFigures$Readings;", true)
  | 3 => ("BarFigures", "sights", "LBarFigures$Sights;", true)
  | 4 => ("BarFigures", "ordering", "LBarFigures$Ordering;", true)
  | 5 => ("BarFigures", "latestFault", "I", false)
  | _ => ("BarFigures", "traced", "I", false)
def tyX8 : Nat → FieldType := fun k => match k with
  | 0 => .array (.object "BarFigures$Sheet")
  | 1 => .object "BarFigures$Panel"
  | 2 => .object "BarFigures$Readings"
  | 3 => .object "BarFigures$Sights"
  | 4 => .object "BarFigures$Ordering"
  | 5 => .int
  | _ => .int
theorem nmX8 : ∀ a, a < 7 → ∀ b, b < 7 → a ≠ b → (TX8 a).2.1 ≠ (TX8 b).2.1 := by decide +kernel
theorem tyX8_ok : ∀ k, k < 7 → parseFieldDescriptor (TX8 k).2.2.1 = some (tyX8 k) := by decide +kernel
abbrev cX8_init : ByteArray := prog_1_method_1_code
def yX8_init : MethodName := ⟨RX8, "<init>", "()V"⟩
abbrev cX8_panel : ByteArray := prog_1_method_2_code
def yX8_panel : MethodName := ⟨RX8, "panel", "(IIII)I"⟩
abbrev cX8_ofPlace : ByteArray := prog_1_method_3_code
def yX8_ofPlace : MethodName := ⟨RX8, "ofPlace", "(II)I"⟩
abbrev cX8_wear : ByteArray := prog_1_method_4_code
def yX8_wear : MethodName := ⟨RX8, "wear", "(II)I"⟩
abbrev cX8_kill : ByteArray := prog_1_method_5_code
def yX8_kill : MethodName := ⟨RX8, "kill", "(II)I"⟩
abbrev cX8_jam : ByteArray := prog_1_method_6_code
def yX8_jam : MethodName := ⟨RX8, "jam", "(II)I"⟩
abbrev cX8_burns : ByteArray := prog_1_method_7_code
def yX8_burns : MethodName := ⟨RX8, "burns", "(II)I"⟩
abbrev cX8_digits : ByteArray := prog_1_method_8_code
def yX8_digits : MethodName := ⟨RX8, "digits", "(II)I"⟩
abbrev cX8_bars : ByteArray := prog_1_method_9_code
def yX8_bars : MethodName := ⟨RX8, "bars", "(I)I"⟩
abbrev cX8_alike : ByteArray := prog_1_method_10_code
def yX8_alike : MethodName := ⟨RX8, "alike", "(I)I"⟩
abbrev cX8_which : ByteArray := prog_1_method_11_code
def yX8_which : MethodName := ⟨RX8, "which", "(II)I"⟩
abbrev cX8_flips : ByteArray := prog_1_method_12_code
def yX8_flips : MethodName := ⟨RX8, "flips", "(II)I"⟩
abbrev cX8_counting : ByteArray := prog_1_method_13_code
def yX8_counting : MethodName := ⟨RX8, "counting", "(III)I"⟩
abbrev cX8_near : ByteArray := prog_1_method_14_code
def yX8_near : MethodName := ⟨RX8, "near", "(II)I"⟩
abbrev cX8_pictures : ByteArray := prog_1_method_15_code
def yX8_pictures : MethodName := ⟨RX8, "pictures", "()I"⟩
abbrev cX8_go : ByteArray := prog_1_method_16_code
def yX8_go : MethodName := ⟨RX8, "go", "(I)I"⟩
abbrev cX8_dies : ByteArray := prog_1_method_17_code
def yX8_dies : MethodName := ⟨RX8, "dies", "(II)I"⟩
abbrev cX8_first : ByteArray := prog_1_method_18_code
def yX8_first : MethodName := ⟨RX8, "first", "(I)I"⟩
abbrev cX8_seen : ByteArray := prog_1_method_19_code
def yX8_seen : MethodName := ⟨RX8, "seen", "(IIIIII)I"⟩
abbrev cX8_repair : ByteArray := prog_1_method_20_code
def yX8_repair : MethodName := ⟨RX8, "repair", "(I)I"⟩
abbrev cX8_order : ByteArray := prog_1_method_21_code
def yX8_order : MethodName := ⟨RX8, "order", "(IIIII)I"⟩
abbrev cX8_reading : ByteArray := prog_1_method_22_code
def yX8_reading : MethodName := ⟨RX8, "reading", "(III)I"⟩
abbrev cX8_back : ByteArray := prog_1_method_23_code
def yX8_back : MethodName := ⟨RX8, "back", "(I)I"⟩
abbrev cX8_deads : ByteArray := prog_1_method_24_code
def yX8_deads : MethodName := ⟨RX8, "deads", "(II)I"⟩
abbrev cX8_kinds : ByteArray := prog_1_method_25_code
def yX8_kinds : MethodName := ⟨RX8, "kinds", "(I)I"⟩
abbrev cX8_odds : ByteArray := prog_1_method_26_code
def yX8_odds : MethodName := ⟨RX8, "odds", "(I)J"⟩
abbrev cX8_sheet : ByteArray := prog_1_method_27_code
def yX8_sheet : MethodName := ⟨RX8, "sheet", "(III)I"⟩
abbrev cX8_lose : ByteArray := prog_1_method_28_code
def yX8_lose : MethodName := ⟨RX8, "lose", "(I)I"⟩
abbrev cX8_put : ByteArray := prog_1_method_29_code
def yX8_put : MethodName := ⟨RX8, "put", "(III)I"⟩
abbrev cX8_cell : ByteArray := prog_1_method_30_code
def yX8_cell : MethodName := ⟨RX8, "cell", "(III)J"⟩
abbrev cX8_copy : ByteArray := prog_1_method_31_code
def yX8_copy : MethodName := ⟨RX8, "copy", "(IIIII)I"⟩
abbrev cX8_tell : ByteArray := prog_1_method_32_code
def yX8_tell : MethodName := ⟨RX8, "tell", "(I)I"⟩
abbrev cX8_hum : ByteArray := prog_1_method_33_code
def yX8_hum : MethodName := ⟨RX8, "hum", "(I)I"⟩
abbrev cX8_as : ByteArray := prog_1_method_34_code
def yX8_as : MethodName := ⟨RX8, "as", "(II)I"⟩
abbrev cX8_trace : ByteArray := prog_1_method_35_code
def yX8_trace : MethodName := ⟨RX8, "trace", "()I"⟩
abbrev cX8_fault : ByteArray := prog_1_method_36_code
def yX8_fault : MethodName := ⟨RX8, "fault", "()I"⟩
abbrev cX8_many : ByteArray := prog_1_method_37_code
def yX8_many : MethodName := ⟨RX8, "many", "(I)I"⟩
abbrev cX8_isWithin : ByteArray := prog_1_method_38_code
def yX8_isWithin : MethodName := ⟨RX8, "isWithin", "(II)Z"⟩
abbrev cX8_isPlace : ByteArray := prog_1_method_39_code
def yX8_isPlace : MethodName := ⟨RX8, "isPlace", "(I)Z"⟩
abbrev cX8_isOrderQuestion : ByteArray := prog_1_method_40_code
def yX8_isOrderQuestion : MethodName := ⟨RX8, "isOrderQuestion", "(I)Z"⟩
abbrev cX8_faulted : ByteArray := prog_1_method_41_code
def yX8_faulted : MethodName := ⟨RX8, "faulted", "(I)I"⟩
abbrev cX8_pick : ByteArray := prog_1_method_42_code
def yX8_pick : MethodName := ⟨RX8, "pick", "(IIII)I"⟩
abbrev cX8_commonDivisor : ByteArray := prog_1_method_43_code
def yX8_commonDivisor : MethodName := ⟨RX8, "commonDivisor", "(JJ)J"⟩
abbrev cX8_leave : ByteArray := prog_1_method_44_code
def yX8_leave : MethodName := ⟨RX8, "leave", "(I)V"⟩
abbrev cX8_fairBody : ByteArray := prog_1_method_45_code
def yX8_fairBody : MethodName := ⟨RX8, "fairBody", "(LBarFigures$Place;)I"⟩
abbrev cX8_mirroredBody : ByteArray := prog_1_method_46_code
def yX8_mirroredBody : MethodName := ⟨RX8, "mirroredBody", "(LBarFigures$Place;)I"⟩
abbrev cX8_turnedBody : ByteArray := prog_1_method_47_code
def yX8_turnedBody : MethodName := ⟨RX8, "turnedBody", "(LBarFigures$Place;)I"⟩
def RX9 : String := "BarFiguresModel"
def TX9 : u_T := fun k => match k with
  | 0 => ("BarFiguresModel", "fault", "I", false)
  | 1 => ("BarFiguresModel", "places", "I", false)
  | 2 => ("BarFiguresModel", "life", "I", false)
  | 3 => ("BarFiguresModel", "shown", "I", false)
  | 4 => ("BarFiguresModel", "kindOf", "[I", true)
  | 5 => ("BarFiguresModel", "deadOf", "[I", true)
  | 6 => ("BarFiguresModel", "stuckOf", "[I", true)
  | 7 => ("BarFiguresModel", "wearOf", "[I", true)
  | 8 => ("BarFiguresModel", "readAt", "I", false)
  | 9 => ("BarFiguresModel", "readPlaces", "I", false)
  | 10 => ("BarFiguresModel", "readKind", "[I", true)
  | 11 => ("BarFiguresModel", "readDead", "[I", true)
  | 12 => ("BarFiguresModel", "readStuck", "[I", true)
  | 13 => ("BarFiguresModel", "shownKept", "I", false)
  | 14 => ("BarFiguresModel", "deadKept", "[I", true)
  | 15 => ("BarFiguresModel", "wearKept", "[I", true)
  | 16 => ("BarFiguresModel", "flipsFrom", "[I", true)
  | 17 => ("BarFiguresModel", "orderNow", "[I", true)
  | 18 => ("BarFiguresModel", "orderBest", "[I", true)
  | 19 => ("BarFiguresModel", "readings", "I", false)
  | 20 => ("BarFiguresModel", "readingOf", "[I", true)
  | 21 => ("BarFiguresModel", "readingFor", "[I", true)
  | 22 => ("BarFiguresModel", "readingWas", "[I", true)
  | 23 => ("BarFiguresModel", "sheetSize", "[I", true)
  | 24 => ("BarFiguresModel", "sheetLane", "[I", true)
  | 25 => ("BarFiguresModel", "sheet", "[I", true)
  | 26 => ("BarFiguresModel", "hands", "[I", true)
  | _ => ("BarFiguresModel", "traceNow", "I", false)
def tyX9 : Nat → FieldType := fun k => match k with
  | 0 => .int
  | 1 => .int
  | 2 => .int
  | 3 => .int
  | 4 => .array .int
  | 5 => .array .int
  | 6 => .array .int
  | 7 => .array .int
  | 8 => .int
  | 9 => .int
  | 10 => .array .int
  | 11 => .array .int
  | 12 => .array .int
  | 13 => .int
  | 14 => .array .int
  | 15 => .array .int
  | 16 => .array .int
  | 17 => .array .int
  | 18 => .array .int
  | 19 => .int
  | 20 => .array .int
  | 21 => .array .int
  | 22 => .array .int
  | 23 => .array .int
  | 24 => .array .int
  | 25 => .array .int
  | 26 => .array .int
  | _ => .int
theorem nmX9 : ∀ a, a < 28 → ∀ b, b < 28 → a ≠ b → (TX9 a).2.1 ≠ (TX9 b).2.1 := by decide +kernel
theorem tyX9_ok : ∀ k, k < 28 → parseFieldDescriptor (TX9 k).2.2.1 = some (tyX9 k) := by decide +kernel
abbrev cX9_init : ByteArray := prog_11_method_1_code
def yX9_init : MethodName := ⟨RX9, "<init>", "()V"⟩
abbrev cX9_in : ByteArray := prog_11_method_2_code
def yX9_in : MethodName := ⟨RX9, "in", "(JJJ)Z"⟩
abbrev cX9_lost : ByteArray := prog_11_method_3_code
def yX9_lost : MethodName := ⟨RX9, "lost", "()J"⟩
abbrev cX9_isIn : ByteArray := prog_11_method_4_code
def yX9_isIn : MethodName := ⟨RX9, "isIn", "(II)Z"⟩
abbrev cX9_bits : ByteArray := prog_11_method_5_code
def yX9_bits : MethodName := ⟨RX9, "bits", "(I)I"⟩
abbrev cX9_share : ByteArray := prog_11_method_6_code
def yX9_share : MethodName := ⟨RX9, "share", "(JJI)J"⟩
abbrev cX9_refused : ByteArray := prog_11_method_7_code
def yX9_refused : MethodName := ⟨RX9, "refused", "(I)I"⟩
abbrev cX9_failed : ByteArray := prog_11_method_8_code
def yX9_failed : MethodName := ⟨RX9, "failed", "(I)I"⟩
abbrev cX9_failedLong : ByteArray := prog_11_method_9_code
def yX9_failedLong : MethodName := ⟨RX9, "failedLong", "(I)J"⟩
abbrev cX9_noPlace : ByteArray := prog_11_method_10_code
def yX9_noPlace : MethodName := ⟨RX9, "noPlace", "(I)Z"⟩
abbrev cX9_codeAt : ByteArray := prog_11_method_11_code
def yX9_codeAt : MethodName := ⟨RX9, "codeAt", "(II)I"⟩
abbrev cX9_figure : ByteArray := prog_11_method_12_code
def yX9_figure : MethodName := ⟨RX9, "figure", "(IIIII)I"⟩
abbrev cX9_barsRead : ByteArray := prog_11_method_13_code
def yX9_barsRead : MethodName := ⟨RX9, "barsRead", "(II)I"⟩
abbrev cX9_readsPlace : ByteArray := prog_11_method_14_code
def yX9_readsPlace : MethodName := ⟨RX9, "readsPlace", "(II)Z"⟩
abbrev cX9_lifeRead : ByteArray := prog_11_method_15_code
def yX9_lifeRead : MethodName := ⟨RX9, "lifeRead", "(II)I"⟩
abbrev cX9_cellsBarred : ByteArray := prog_11_method_16_code
def yX9_cellsBarred : MethodName := ⟨RX9, "cellsBarred", "(IIIJ)I"⟩
abbrev cX9_panel : ByteArray := prog_11_method_17_code
def yX9_panel : MethodName := ⟨RX9, "panel", "(IIII)I"⟩
abbrev cX9_figureOf : ByteArray := prog_11_method_18_code
def yX9_figureOf : MethodName := ⟨RX9, "figureOf", "(I)I"⟩
abbrev cX9_exchanged : ByteArray := prog_11_method_19_code
def yX9_exchanged : MethodName := ⟨RX9, "exchanged", "(III)I"⟩
abbrev cX9_mirrored : ByteArray := prog_11_method_20_code
def yX9_mirrored : MethodName := ⟨RX9, "mirrored", "(I)I"⟩
abbrev cX9_turned : ByteArray := prog_11_method_21_code
def yX9_turned : MethodName := ⟨RX9, "turned", "(I)I"⟩
abbrev cX9_faceOf : ByteArray := prog_11_method_22_code
def yX9_faceOf : MethodName := ⟨RX9, "faceOf", "(II)I"⟩
abbrev cX9_burnsAt : ByteArray := prog_11_method_23_code
def yX9_burnsAt : MethodName := ⟨RX9, "burnsAt", "(II)I"⟩
abbrev cX9_ten : ByteArray := prog_11_method_24_code
def yX9_ten : MethodName := ⟨RX9, "ten", "(I)I"⟩
abbrev cX9_last : ByteArray := prog_11_method_25_code
def yX9_last : MethodName := ⟨RX9, "last", "()I"⟩
abbrev cX9_digitAt : ByteArray := prog_11_method_26_code
def yX9_digitAt : MethodName := ⟨RX9, "digitAt", "(II)I"⟩
abbrev cX9_unlikeAt : ByteArray := prog_11_method_27_code
def yX9_unlikeAt : MethodName := ⟨RX9, "unlikeAt", "(I)I"⟩
abbrev cX9_ofPlace : ByteArray := prog_11_method_28_code
def yX9_ofPlace : MethodName := ⟨RX9, "ofPlace", "(II)I"⟩
abbrev cX9_wear : ByteArray := prog_11_method_29_code
def yX9_wear : MethodName := ⟨RX9, "wear", "(II)I"⟩
abbrev cX9_kill : ByteArray := prog_11_method_30_code
def yX9_kill : MethodName := ⟨RX9, "kill", "(II)I"⟩
abbrev cX9_jam : ByteArray := prog_11_method_31_code
def yX9_jam : MethodName := ⟨RX9, "jam", "(II)I"⟩
abbrev cX9_burns : ByteArray := prog_11_method_32_code
def yX9_burns : MethodName := ⟨RX9, "burns", "(II)I"⟩
abbrev cX9_digitsOf : ByteArray := prog_11_method_33_code
def yX9_digitsOf : MethodName := ⟨RX9, "digitsOf", "(II)I"⟩
abbrev cX9_digits : ByteArray := prog_11_method_34_code
def yX9_digits : MethodName := ⟨RX9, "digits", "(II)I"⟩
abbrev cX9_noNumber : ByteArray := prog_11_method_35_code
def yX9_noNumber : MethodName := ⟨RX9, "noNumber", "(I)Z"⟩
abbrev cX9_bars : ByteArray := prog_11_method_36_code
def yX9_bars : MethodName := ⟨RX9, "bars", "(I)I"⟩
abbrev cX9_flipsOf : ByteArray := prog_11_method_37_code
def yX9_flipsOf : MethodName := ⟨RX9, "flipsOf", "(II)I"⟩
abbrev cX9_alike : ByteArray := prog_11_method_38_code
def yX9_alike : MethodName := ⟨RX9, "alike", "(I)I"⟩
abbrev cX9_which : ByteArray := prog_11_method_39_code
def yX9_which : MethodName := ⟨RX9, "which", "(II)I"⟩
abbrev cX9_flips : ByteArray := prog_11_method_40_code
def yX9_flips : MethodName := ⟨RX9, "flips", "(II)I"⟩
abbrev cX9_counting : ByteArray := prog_11_method_41_code
def yX9_counting : MethodName := ⟨RX9, "counting", "(III)I"⟩
abbrev cX9_near : ByteArray := prog_11_method_42_code
def yX9_near : MethodName := ⟨RX9, "near", "(II)I"⟩
abbrev cX9_pictures : ByteArray := prog_11_method_43_code
def yX9_pictures : MethodName := ⟨RX9, "pictures", "()I"⟩
abbrev cX9_keepAll : ByteArray := prog_11_method_44_code
def yX9_keepAll : MethodName := ⟨RX9, "keepAll", "()V"⟩
abbrev cX9_bringBack : ByteArray := prog_11_method_45_code
def yX9_bringBack : MethodName := ⟨RX9, "bringBack", "()V"⟩
abbrev cX9_wears : ByteArray := prog_11_method_46_code
def yX9_wears : MethodName := ⟨RX9, "wears", "(II)V"⟩
abbrev cX9_step : ByteArray := prog_11_method_47_code
def yX9_step : MethodName := ⟨RX9, "step", "()V"⟩
abbrev cX9_deadNow : ByteArray := prog_11_method_48_code
def yX9_deadNow : MethodName := ⟨RX9, "deadNow", "()I"⟩
abbrev cX9_go : ByteArray := prog_11_method_49_code
def yX9_go : MethodName := ⟨RX9, "go", "(I)I"⟩
abbrev cX9_diesAt : ByteArray := prog_11_method_50_code
def yX9_diesAt : MethodName := ⟨RX9, "diesAt", "(II)I"⟩
abbrev cX9_dies : ByteArray := prog_11_method_51_code
def yX9_dies : MethodName := ⟨RX9, "dies", "(II)I"⟩
abbrev cX9_firstDead : ByteArray := prog_11_method_52_code
def yX9_firstDead : MethodName := ⟨RX9, "firstDead", "()I"⟩
abbrev cX9_first : ByteArray := prog_11_method_53_code
def yX9_first : MethodName := ⟨RX9, "first", "(I)I"⟩
abbrev cX9_begins : ByteArray := prog_11_method_54_code
def yX9_begins : MethodName := ⟨RX9, "begins", "(IIII)Z"⟩
abbrev cX9_beginsBy : ByteArray := prog_11_method_55_code
def yX9_beginsBy : MethodName := ⟨RX9, "beginsBy", "(IIII)I"⟩
abbrev cX9_seen : ByteArray := prog_11_method_56_code
def yX9_seen : MethodName := ⟨RX9, "seen", "(IIIIII)I"⟩
abbrev cX9_repair : ByteArray := prog_11_method_57_code
def yX9_repair : MethodName := ⟨RX9, "repair", "(I)I"⟩
abbrev cX9_orderFlips : ByteArray := prog_11_method_58_code
def yX9_orderFlips : MethodName := ⟨RX9, "orderFlips", "(I)I"⟩
abbrev cX9_exchange : ByteArray := prog_11_method_59_code
def yX9_exchange : MethodName := ⟨RX9, "exchange", "(II)V"⟩
abbrev cX9_nextOrder : ByteArray := prog_11_method_60_code
def yX9_nextOrder : MethodName := ⟨RX9, "nextOrder", "(I)Z"⟩
abbrev cX9_orderBy : ByteArray := prog_11_method_61_code
def yX9_orderBy : MethodName := ⟨RX9, "orderBy", "(III)I"⟩
abbrev cX9_order : ByteArray := prog_11_method_62_code
def yX9_order : MethodName := ⟨RX9, "order", "(IIIII)I"⟩
abbrev cX9_reading : ByteArray := prog_11_method_63_code
def yX9_reading : MethodName := ⟨RX9, "reading", "(III)I"⟩
abbrev cX9_back : ByteArray := prog_11_method_64_code
def yX9_back : MethodName := ⟨RX9, "back", "(I)I"⟩
abbrev cX9_areSo : ByteArray := prog_11_method_65_code
def yX9_areSo : MethodName := ⟨RX9, "areSo", "()Z"⟩
abbrev cX9_deadsOf : ByteArray := prog_11_method_66_code
def yX9_deadsOf : MethodName := ⟨RX9, "deadsOf", "(II)I"⟩
abbrev cX9_deads : ByteArray := prog_11_method_67_code
def yX9_deads : MethodName := ⟨RX9, "deads", "(II)I"⟩
abbrev cX9_kinds : ByteArray := prog_11_method_68_code
def yX9_kinds : MethodName := ⟨RX9, "kinds", "(I)I"⟩
abbrev cX9_odds : ByteArray := prog_11_method_69_code
def yX9_odds : MethodName := ⟨RX9, "odds", "(I)J"⟩
abbrev cX9_noSheet : ByteArray := prog_11_method_70_code
def yX9_noSheet : MethodName := ⟨RX9, "noSheet", "(I)Z"⟩
abbrev cX9_sheet : ByteArray := prog_11_method_71_code
def yX9_sheet : MethodName := ⟨RX9, "sheet", "(III)I"⟩
abbrev cX9_lose : ByteArray := prog_11_method_72_code
def yX9_lose : MethodName := ⟨RX9, "lose", "(I)I"⟩
abbrev cX9_noCell : ByteArray := prog_11_method_73_code
def yX9_noCell : MethodName := ⟨RX9, "noCell", "(II)I"⟩
abbrev cX9_put : ByteArray := prog_11_method_74_code
def yX9_put : MethodName := ⟨RX9, "put", "(III)I"⟩
abbrev cX9_cell : ByteArray := prog_11_method_75_code
def yX9_cell : MethodName := ⟨RX9, "cell", "(III)J"⟩
abbrev cX9_isBeyond : ByteArray := prog_11_method_76_code
def yX9_isBeyond : MethodName := ⟨RX9, "isBeyond", "(IJI)Z"⟩
abbrev cX9_copy : ByteArray := prog_11_method_77_code
def yX9_copy : MethodName := ⟨RX9, "copy", "(IIIII)I"⟩
abbrev cX9_traced : ByteArray := prog_11_method_78_code
def yX9_traced : MethodName := ⟨RX9, "traced", "(I)V"⟩
abbrev cX9_tell : ByteArray := prog_11_method_79_code
def yX9_tell : MethodName := ⟨RX9, "tell", "(I)I"⟩
abbrev cX9_hum : ByteArray := prog_11_method_80_code
def yX9_hum : MethodName := ⟨RX9, "hum", "(I)I"⟩
abbrev cX9_as : ByteArray := prog_11_method_81_code
def yX9_as : MethodName := ⟨RX9, "as", "(II)I"⟩
abbrev cX9_trace : ByteArray := prog_11_method_82_code
def yX9_trace : MethodName := ⟨RX9, "trace", "()I"⟩
abbrev cX9_fault : ByteArray := prog_11_method_83_code
def yX9_fault : MethodName := ⟨RX9, "fault", "()I"⟩
abbrev cX9_many : ByteArray := prog_11_method_84_code
def yX9_many : MethodName := ⟨RX9, "many", "(I)I"⟩
def RJ6 : String := "java/lang/Integer"
def TJ6 : u_T := fun k => match k with
  | _ => ("", "", "", false)
def tyJ6 : Nat → FieldType := fun k => match k with
  | _ => .int
theorem nmJ6 : ∀ a, a < 0 → ∀ b, b < 0 → a ≠ b → (TJ6 a).2.1 ≠ (TJ6 b).2.1 := by decide +kernel
theorem tyJ6_ok : ∀ k, k < 0 → parseFieldDescriptor (TJ6 k).2.2.1 = some (tyJ6 k) := by decide +kernel
abbrev cJ6_bitCount_0f7a4 : ByteArray := prog_12_method_49_code
def yJ6_bitCount_0f7a4 : MethodName := ⟨RJ6, "bitCount", "(I)I"⟩
def RJ9 : String := "java/lang/Math"
def TJ9 : u_T := fun k => match k with
  | _ => ("", "", "", false)
def tyJ9 : Nat → FieldType := fun k => match k with
  | _ => .int
theorem nmJ9 : ∀ a, a < 0 → ∀ b, b < 0 → a ≠ b → (TJ9 a).2.1 ≠ (TJ9 b).2.1 := by decide +kernel
theorem tyJ9_ok : ∀ k, k < 0 → parseFieldDescriptor (TJ9 k).2.2.1 = some (tyJ9 k) := by decide +kernel
abbrev cJ9_max_7cf53 : ByteArray := prog_13_method_65_code
def yJ9_max_7cf53 : MethodName := ⟨RJ9, "max", "(II)I"⟩
abbrev cJ9_min_7cf53 : ByteArray := prog_13_method_69_code
def yJ9_min_7cf53 : MethodName := ⟨RJ9, "min", "(II)I"⟩
def RJ10 : String := "java/lang/System"
def TJ10 : u_T := fun k => match k with
  | _ => ("", "", "", false)
def tyJ10 : Nat → FieldType := fun k => match k with
  | _ => .int
theorem nmJ10 : ∀ a, a < 0 → ∀ b, b < 0 → a ≠ b → (TJ10 a).2.1 ≠ (TJ10 b).2.1 := by decide +kernel
theorem tyJ10_ok : ∀ k, k < 0 → parseFieldDescriptor (TJ10 k).2.2.1 = some (tyJ10 k) := by decide +kernel
def RL : String := "BarFiguresLaw"
abbrev cL_law : ByteArray := code
def yL_law : MethodName := ⟨RL, "law", "([I)Z"⟩
abbrev vwCl : List vw_C := [(RX0, TX0, 1), (RX1, TX1, 6), (RX2, TX2, 5), (RX3, TX3, 6), (RX4, TX4, 4), (RX5, TX5, 3), (RX6, TX6, 2), (RX8, TX8, 7), (RX9, TX9, 28)]
end
section
theorem dJ6_bitCount_0f7a4_0 : decode cJ6_bitCount_0f7a4 0 = .ok (.iload_n 0, 1) := by decide +kernel
theorem dJ6_bitCount_0f7a4_1 : decode cJ6_bitCount_0f7a4 1 = .ok (.iload_n 0, 1) := by decide +kernel
theorem dJ6_bitCount_0f7a4_2 : decode cJ6_bitCount_0f7a4 2 = .ok (.iconst 1, 1) := by decide +kernel
theorem dJ6_bitCount_0f7a4_3 : decode cJ6_bitCount_0f7a4 3 = .ok (.iushr, 1) := by decide +kernel
theorem dJ6_bitCount_0f7a4_4 : decode cJ6_bitCount_0f7a4 4 = .ok (.ldc_w 265, 3) := by decide +kernel
theorem dJ6_bitCount_0f7a4_7 : decode cJ6_bitCount_0f7a4 7 = .ok (.iand, 1) := by decide +kernel
theorem dJ6_bitCount_0f7a4_8 : decode cJ6_bitCount_0f7a4 8 = .ok (.isub, 1) := by decide +kernel
theorem dJ6_bitCount_0f7a4_9 : decode cJ6_bitCount_0f7a4 9 = .ok (.istore_n 0, 1) := by decide +kernel
theorem dJ6_bitCount_0f7a4_10 : decode cJ6_bitCount_0f7a4 10 = .ok (.iload_n 0, 1) := by decide +kernel
theorem dJ6_bitCount_0f7a4_11 : decode cJ6_bitCount_0f7a4 11 = .ok (.ldc_w 266, 3) := by decide +kernel
theorem dJ6_bitCount_0f7a4_14 : decode cJ6_bitCount_0f7a4 14 = .ok (.iand, 1) := by decide +kernel
theorem dJ6_bitCount_0f7a4_15 : decode cJ6_bitCount_0f7a4 15 = .ok (.iload_n 0, 1) := by decide +kernel
theorem dJ6_bitCount_0f7a4_16 : decode cJ6_bitCount_0f7a4 16 = .ok (.iconst 2, 1) := by decide +kernel
theorem dJ6_bitCount_0f7a4_17 : decode cJ6_bitCount_0f7a4 17 = .ok (.iushr, 1) := by decide +kernel
theorem dJ6_bitCount_0f7a4_18 : decode cJ6_bitCount_0f7a4 18 = .ok (.ldc_w 266, 3) := by decide +kernel
theorem dJ6_bitCount_0f7a4_21 : decode cJ6_bitCount_0f7a4 21 = .ok (.iand, 1) := by decide +kernel
theorem dJ6_bitCount_0f7a4_22 : decode cJ6_bitCount_0f7a4 22 = .ok (.iadd, 1) := by decide +kernel
theorem dJ6_bitCount_0f7a4_23 : decode cJ6_bitCount_0f7a4 23 = .ok (.istore_n 0, 1) := by decide +kernel
theorem dJ6_bitCount_0f7a4_24 : decode cJ6_bitCount_0f7a4 24 = .ok (.iload_n 0, 1) := by decide +kernel
theorem dJ6_bitCount_0f7a4_25 : decode cJ6_bitCount_0f7a4 25 = .ok (.iload_n 0, 1) := by decide +kernel
theorem dJ6_bitCount_0f7a4_26 : decode cJ6_bitCount_0f7a4 26 = .ok (.iconst 4, 1) := by decide +kernel
theorem dJ6_bitCount_0f7a4_27 : decode cJ6_bitCount_0f7a4 27 = .ok (.iushr, 1) := by decide +kernel
theorem dJ6_bitCount_0f7a4_28 : decode cJ6_bitCount_0f7a4 28 = .ok (.iadd, 1) := by decide +kernel
theorem dJ6_bitCount_0f7a4_29 : decode cJ6_bitCount_0f7a4 29 = .ok (.ldc_w 267, 3) := by decide +kernel
theorem dJ6_bitCount_0f7a4_32 : decode cJ6_bitCount_0f7a4 32 = .ok (.iand, 1) := by decide +kernel
theorem dJ6_bitCount_0f7a4_33 : decode cJ6_bitCount_0f7a4 33 = .ok (.istore_n 0, 1) := by decide +kernel
theorem dJ6_bitCount_0f7a4_34 : decode cJ6_bitCount_0f7a4 34 = .ok (.iload_n 0, 1) := by decide +kernel
theorem dJ6_bitCount_0f7a4_35 : decode cJ6_bitCount_0f7a4 35 = .ok (.iload_n 0, 1) := by decide +kernel
theorem dJ6_bitCount_0f7a4_36 : decode cJ6_bitCount_0f7a4 36 = .ok (.bipush 8, 2) := by decide +kernel
theorem dJ6_bitCount_0f7a4_38 : decode cJ6_bitCount_0f7a4 38 = .ok (.iushr, 1) := by decide +kernel
theorem dJ6_bitCount_0f7a4_39 : decode cJ6_bitCount_0f7a4 39 = .ok (.iadd, 1) := by decide +kernel
theorem dJ6_bitCount_0f7a4_40 : decode cJ6_bitCount_0f7a4 40 = .ok (.istore_n 0, 1) := by decide +kernel
theorem dJ6_bitCount_0f7a4_41 : decode cJ6_bitCount_0f7a4 41 = .ok (.iload_n 0, 1) := by decide +kernel
theorem dJ6_bitCount_0f7a4_42 : decode cJ6_bitCount_0f7a4 42 = .ok (.iload_n 0, 1) := by decide +kernel
theorem dJ6_bitCount_0f7a4_43 : decode cJ6_bitCount_0f7a4 43 = .ok (.bipush 16, 2) := by decide +kernel
theorem dJ6_bitCount_0f7a4_45 : decode cJ6_bitCount_0f7a4 45 = .ok (.iushr, 1) := by decide +kernel
theorem dJ6_bitCount_0f7a4_46 : decode cJ6_bitCount_0f7a4 46 = .ok (.iadd, 1) := by decide +kernel
theorem dJ6_bitCount_0f7a4_47 : decode cJ6_bitCount_0f7a4 47 = .ok (.istore_n 0, 1) := by decide +kernel
theorem dJ6_bitCount_0f7a4_48 : decode cJ6_bitCount_0f7a4 48 = .ok (.iload_n 0, 1) := by decide +kernel
theorem dJ6_bitCount_0f7a4_49 : decode cJ6_bitCount_0f7a4 49 = .ok (.bipush 63, 2) := by decide +kernel
theorem dJ6_bitCount_0f7a4_51 : decode cJ6_bitCount_0f7a4 51 = .ok (.iand, 1) := by decide +kernel
theorem dJ6_bitCount_0f7a4_52 : decode cJ6_bitCount_0f7a4 52 = .ok (.ireturn, 1) := by decide +kernel
theorem dJ9_max_7cf53_0 : decode cJ9_max_7cf53 0 = .ok (.iload_n 0, 1) := by decide +kernel
theorem dJ9_max_7cf53_1 : decode cJ9_max_7cf53 1 = .ok (.iload_n 1, 1) := by decide +kernel
theorem dJ9_max_7cf53_2 : decode cJ9_max_7cf53 2 = .ok (.if_icmp .lt 7, 3) := by decide +kernel
theorem dJ9_max_7cf53_5 : decode cJ9_max_7cf53 5 = .ok (.iload_n 0, 1) := by decide +kernel
theorem dJ9_max_7cf53_6 : decode cJ9_max_7cf53 6 = .ok (.goto 4, 3) := by decide +kernel
theorem dJ9_max_7cf53_9 : decode cJ9_max_7cf53 9 = .ok (.iload_n 1, 1) := by decide +kernel
theorem dJ9_max_7cf53_10 : decode cJ9_max_7cf53 10 = .ok (.ireturn, 1) := by decide +kernel
theorem dJ9_min_7cf53_0 : decode cJ9_min_7cf53 0 = .ok (.iload_n 0, 1) := by decide +kernel
theorem dJ9_min_7cf53_1 : decode cJ9_min_7cf53 1 = .ok (.iload_n 1, 1) := by decide +kernel
theorem dJ9_min_7cf53_2 : decode cJ9_min_7cf53 2 = .ok (.if_icmp .gt 7, 3) := by decide +kernel
theorem dJ9_min_7cf53_5 : decode cJ9_min_7cf53 5 = .ok (.iload_n 0, 1) := by decide +kernel
theorem dJ9_min_7cf53_6 : decode cJ9_min_7cf53 6 = .ok (.goto 4, 3) := by decide +kernel
theorem dJ9_min_7cf53_9 : decode cJ9_min_7cf53 9 = .ok (.iload_n 1, 1) := by decide +kernel
theorem dJ9_min_7cf53_10 : decode cJ9_min_7cf53 10 = .ok (.ireturn, 1) := by decide +kernel
theorem dX0_init_0 : decode cX0_init 0 = .ok (.aload_n 0, 1) := by decide +kernel
theorem dX0_init_1 : decode cX0_init 1 = .ok (.invokespecial 3, 3) := by decide +kernel
theorem dX0_init_4 : decode cX0_init 4 = .ok (.aload_n 0, 1) := by decide +kernel
theorem dX0_init_5 : decode cX0_init 5 = .ok (.bipush 30, 2) := by decide +kernel
theorem dX0_init_7 : decode cX0_init 7 = .ok (.newarray .int, 2) := by decide +kernel
theorem dX0_init_9 : decode cX0_init 9 = .ok (.putfield 9, 3) := by decide +kernel
theorem dX0_init_12 : decode cX0_init 12 = .ok (.iconst 0, 1) := by decide +kernel
theorem dX0_init_13 : decode cX0_init 13 = .ok (.istore_n 1, 1) := by decide +kernel
theorem dX0_init_14 : decode cX0_init 14 = .ok (.iload_n 1, 1) := by decide +kernel
theorem dX0_init_15 : decode cX0_init 15 = .ok (.bipush 10, 2) := by decide +kernel
theorem dX0_init_17 : decode cX0_init 17 = .ok (.if_icmp .ge 52, 3) := by decide +kernel
theorem dX0_init_20 : decode cX0_init 20 = .ok (.getstatic 15, 3) := by decide +kernel
theorem dX0_init_23 : decode cX0_init 23 = .ok (.iload_n 1, 1) := by decide +kernel
theorem dX0_init_24 : decode cX0_init 24 = .ok (.iaload, 1) := by decide +kernel
theorem dX0_init_25 : decode cX0_init 25 = .ok (.invokestatic 18, 3) := by decide +kernel
theorem dX0_init_28 : decode cX0_init 28 = .ok (.istore_n 2, 1) := by decide +kernel
theorem dX0_init_29 : decode cX0_init 29 = .ok (.aload_n 0, 1) := by decide +kernel
theorem dX0_init_30 : decode cX0_init 30 = .ok (.getfield 9, 3) := by decide +kernel
theorem dX0_init_33 : decode cX0_init 33 = .ok (.iload_n 1, 1) := by decide +kernel
theorem dX0_init_34 : decode cX0_init 34 = .ok (.getstatic 15, 3) := by decide +kernel
theorem dX0_init_37 : decode cX0_init 37 = .ok (.iload_n 1, 1) := by decide +kernel
theorem dX0_init_38 : decode cX0_init 38 = .ok (.iaload, 1) := by decide +kernel
theorem dX0_init_39 : decode cX0_init 39 = .ok (.iastore, 1) := by decide +kernel
theorem dX0_init_40 : decode cX0_init 40 = .ok (.aload_n 0, 1) := by decide +kernel
theorem dX0_init_41 : decode cX0_init 41 = .ok (.getfield 9, 3) := by decide +kernel
theorem dX0_init_44 : decode cX0_init 44 = .ok (.bipush 10, 2) := by decide +kernel
theorem dX0_init_46 : decode cX0_init 46 = .ok (.iload_n 1, 1) := by decide +kernel
theorem dX0_init_47 : decode cX0_init 47 = .ok (.iadd, 1) := by decide +kernel
theorem dX0_init_48 : decode cX0_init 48 = .ok (.iload_n 2, 1) := by decide +kernel
theorem dX0_init_49 : decode cX0_init 49 = .ok (.iastore, 1) := by decide +kernel
theorem dX0_init_50 : decode cX0_init 50 = .ok (.aload_n 0, 1) := by decide +kernel
theorem dX0_init_51 : decode cX0_init 51 = .ok (.getfield 9, 3) := by decide +kernel
theorem dX0_init_54 : decode cX0_init 54 = .ok (.bipush 20, 2) := by decide +kernel
theorem dX0_init_56 : decode cX0_init 56 = .ok (.iload_n 1, 1) := by decide +kernel
theorem dX0_init_57 : decode cX0_init 57 = .ok (.iadd, 1) := by decide +kernel
theorem dX0_init_58 : decode cX0_init 58 = .ok (.iload_n 2, 1) := by decide +kernel
theorem dX0_init_59 : decode cX0_init 59 = .ok (.invokestatic 22, 3) := by decide +kernel
theorem dX0_init_62 : decode cX0_init 62 = .ok (.iastore, 1) := by decide +kernel
theorem dX0_init_63 : decode cX0_init 63 = .ok (.iinc 1 1, 3) := by decide +kernel
theorem dX0_init_66 : decode cX0_init 66 = .ok (.goto (-52), 3) := by decide +kernel
theorem dX0_init_69 : decode cX0_init 69 = .ok (.return_, 1) := by decide +kernel
theorem dX0_look_0 : decode cX0_look 0 = .ok (.iload_n 1, 1) := by decide +kernel
theorem dX0_look_1 : decode cX0_look 1 = .ok (.iconst 3, 1) := by decide +kernel
theorem dX0_look_2 : decode cX0_look 2 = .ok (.invokestatic 25, 3) := by decide +kernel
theorem dX0_look_5 : decode cX0_look 5 = .ok (.ifCond .eq 26, 3) := by decide +kernel
theorem dX0_look_8 : decode cX0_look 8 = .ok (.iload_n 2, 1) := by decide +kernel
theorem dX0_look_9 : decode cX0_look 9 = .ok (.bipush 10, 2) := by decide +kernel
theorem dX0_look_11 : decode cX0_look 11 = .ok (.invokestatic 25, 3) := by decide +kernel
theorem dX0_look_14 : decode cX0_look 14 = .ok (.ifCond .eq 17, 3) := by decide +kernel
theorem dX0_look_17 : decode cX0_look 17 = .ok (.aload_n 0, 1) := by decide +kernel
theorem dX0_look_18 : decode cX0_look 18 = .ok (.getfield 9, 3) := by decide +kernel
theorem dX0_look_21 : decode cX0_look 21 = .ok (.iload_n 1, 1) := by decide +kernel
theorem dX0_look_22 : decode cX0_look 22 = .ok (.bipush 10, 2) := by decide +kernel
theorem dX0_look_24 : decode cX0_look 24 = .ok (.imul, 1) := by decide +kernel
theorem dX0_look_25 : decode cX0_look 25 = .ok (.iload_n 2, 1) := by decide +kernel
theorem dX0_look_26 : decode cX0_look 26 = .ok (.iadd, 1) := by decide +kernel
theorem dX0_look_27 : decode cX0_look 27 = .ok (.iaload, 1) := by decide +kernel
theorem dX0_look_28 : decode cX0_look 28 = .ok (.goto 4, 3) := by decide +kernel
theorem dX0_look_31 : decode cX0_look 31 = .ok (.iconst 0, 1) := by decide +kernel
theorem dX0_look_32 : decode cX0_look 32 = .ok (.ireturn, 1) := by decide +kernel
theorem dX0_leftRight_0 : decode cX0_leftRight 0 = .ok (.iload_n 0, 1) := by decide +kernel
theorem dX0_leftRight_1 : decode cX0_leftRight 1 = .ok (.iconst 1, 1) := by decide +kernel
theorem dX0_leftRight_2 : decode cX0_leftRight 2 = .ok (.iconst 5, 1) := by decide +kernel
theorem dX0_leftRight_3 : decode cX0_leftRight 3 = .ok (.invokestatic 29, 3) := by decide +kernel
theorem dX0_leftRight_6 : decode cX0_leftRight 6 = .ok (.iconst 2, 1) := by decide +kernel
theorem dX0_leftRight_7 : decode cX0_leftRight 7 = .ok (.iconst 4, 1) := by decide +kernel
theorem dX0_leftRight_8 : decode cX0_leftRight 8 = .ok (.invokestatic 29, 3) := by decide +kernel
theorem dX0_leftRight_11 : decode cX0_leftRight 11 = .ok (.ireturn, 1) := by decide +kernel
theorem dX0_topBottom_0 : decode cX0_topBottom 0 = .ok (.iload_n 0, 1) := by decide +kernel
theorem dX0_topBottom_1 : decode cX0_topBottom 1 = .ok (.iconst 0, 1) := by decide +kernel
theorem dX0_topBottom_2 : decode cX0_topBottom 2 = .ok (.iconst 3, 1) := by decide +kernel
theorem dX0_topBottom_3 : decode cX0_topBottom 3 = .ok (.invokestatic 29, 3) := by decide +kernel
theorem dX0_topBottom_6 : decode cX0_topBottom 6 = .ok (.iconst 1, 1) := by decide +kernel
theorem dX0_topBottom_7 : decode cX0_topBottom 7 = .ok (.iconst 2, 1) := by decide +kernel
theorem dX0_topBottom_8 : decode cX0_topBottom 8 = .ok (.invokestatic 29, 3) := by decide +kernel
theorem dX0_topBottom_11 : decode cX0_topBottom 11 = .ok (.iconst 4, 1) := by decide +kernel
theorem dX0_topBottom_12 : decode cX0_topBottom 12 = .ok (.iconst 5, 1) := by decide +kernel
theorem dX0_topBottom_13 : decode cX0_topBottom 13 = .ok (.invokestatic 29, 3) := by decide +kernel
theorem dX0_topBottom_16 : decode cX0_topBottom 16 = .ok (.ireturn, 1) := by decide +kernel
theorem dX0_exchanged_0 : decode cX0_exchanged 0 = .ok (.iload_n 0, 1) := by decide +kernel
theorem dX0_exchanged_1 : decode cX0_exchanged 1 = .ok (.iload_n 1, 1) := by decide +kernel
theorem dX0_exchanged_2 : decode cX0_exchanged 2 = .ok (.ishr, 1) := by decide +kernel
theorem dX0_exchanged_3 : decode cX0_exchanged 3 = .ok (.iload_n 0, 1) := by decide +kernel
theorem dX0_exchanged_4 : decode cX0_exchanged 4 = .ok (.iload_n 2, 1) := by decide +kernel
theorem dX0_exchanged_5 : decode cX0_exchanged 5 = .ok (.ishr, 1) := by decide +kernel
theorem dX0_exchanged_6 : decode cX0_exchanged 6 = .ok (.ixor, 1) := by decide +kernel
theorem dX0_exchanged_7 : decode cX0_exchanged 7 = .ok (.iconst 1, 1) := by decide +kernel
theorem dX0_exchanged_8 : decode cX0_exchanged 8 = .ok (.iand, 1) := by decide +kernel
theorem dX0_exchanged_9 : decode cX0_exchanged 9 = .ok (.istore_n 3, 1) := by decide +kernel
theorem dX0_exchanged_10 : decode cX0_exchanged 10 = .ok (.iload_n 0, 1) := by decide +kernel
theorem dX0_exchanged_11 : decode cX0_exchanged 11 = .ok (.iload_n 3, 1) := by decide +kernel
theorem dX0_exchanged_12 : decode cX0_exchanged 12 = .ok (.iload_n 1, 1) := by decide +kernel
theorem dX0_exchanged_13 : decode cX0_exchanged 13 = .ok (.ishl, 1) := by decide +kernel
theorem dX0_exchanged_14 : decode cX0_exchanged 14 = .ok (.iload_n 3, 1) := by decide +kernel
theorem dX0_exchanged_15 : decode cX0_exchanged 15 = .ok (.iload_n 2, 1) := by decide +kernel
theorem dX0_exchanged_16 : decode cX0_exchanged 16 = .ok (.ishl, 1) := by decide +kernel
theorem dX0_exchanged_17 : decode cX0_exchanged 17 = .ok (.ior, 1) := by decide +kernel
theorem dX0_exchanged_18 : decode cX0_exchanged 18 = .ok (.ixor, 1) := by decide +kernel
theorem dX0_exchanged_19 : decode cX0_exchanged 19 = .ok (.ireturn, 1) := by decide +kernel
theorem dX1_init_0 : decode cX1_init 0 = .ok (.aload_n 0, 1) := by decide +kernel
theorem dX1_init_1 : decode cX1_init 1 = .ok (.invokespecial 3, 3) := by decide +kernel
theorem dX1_init_4 : decode cX1_init 4 = .ok (.aload_n 0, 1) := by decide +kernel
theorem dX1_init_5 : decode cX1_init 5 = .ok (.bipush 6, 2) := by decide +kernel
theorem dX1_init_7 : decode cX1_init 7 = .ok (.newarray .int, 2) := by decide +kernel
theorem dX1_init_9 : decode cX1_init 9 = .ok (.putfield 9, 3) := by decide +kernel
theorem dX1_init_12 : decode cX1_init 12 = .ok (.aload_n 0, 1) := by decide +kernel
theorem dX1_init_13 : decode cX1_init 13 = .ok (.bipush 36, 2) := by decide +kernel
theorem dX1_init_15 : decode cX1_init 15 = .ok (.newarray .int, 2) := by decide +kernel
theorem dX1_init_17 : decode cX1_init 17 = .ok (.putfield 15, 3) := by decide +kernel
theorem dX1_init_20 : decode cX1_init 20 = .ok (.aload_n 0, 1) := by decide +kernel
theorem dX1_init_21 : decode cX1_init 21 = .ok (.bipush 6, 2) := by decide +kernel
theorem dX1_init_23 : decode cX1_init 23 = .ok (.newarray .int, 2) := by decide +kernel
theorem dX1_init_25 : decode cX1_init 25 = .ok (.putfield 18, 3) := by decide +kernel
theorem dX1_init_28 : decode cX1_init 28 = .ok (.aload_n 0, 1) := by decide +kernel
theorem dX1_init_29 : decode cX1_init 29 = .ok (.bipush 6, 2) := by decide +kernel
theorem dX1_init_31 : decode cX1_init 31 = .ok (.newarray .int, 2) := by decide +kernel
theorem dX1_init_33 : decode cX1_init 33 = .ok (.putfield 21, 3) := by decide +kernel
theorem dX1_init_36 : decode cX1_init 36 = .ok (.return_, 1) := by decide +kernel
theorem dX1_fill_0 : decode cX1_fill 0 = .ok (.aload_n 0, 1) := by decide +kernel
theorem dX1_fill_1 : decode cX1_fill 1 = .ok (.iload 4, 2) := by decide +kernel
theorem dX1_fill_3 : decode cX1_fill 3 = .ok (.bipush 6, 2) := by decide +kernel
theorem dX1_fill_5 : decode cX1_fill 5 = .ok (.invokestatic 24, 3) := by decide +kernel
theorem dX1_fill_8 : decode cX1_fill 8 = .ok (.putfield 30, 3) := by decide +kernel
theorem dX1_fill_11 : decode cX1_fill 11 = .ok (.iconst 0, 1) := by decide +kernel
theorem dX1_fill_12 : decode cX1_fill 12 = .ok (.istore 5, 2) := by decide +kernel
theorem dX1_fill_14 : decode cX1_fill 14 = .ok (.iload 5, 2) := by decide +kernel
theorem dX1_fill_16 : decode cX1_fill 16 = .ok (.aload_n 0, 1) := by decide +kernel
theorem dX1_fill_17 : decode cX1_fill 17 = .ok (.getfield 30, 3) := by decide +kernel
theorem dX1_fill_20 : decode cX1_fill 20 = .ok (.if_icmp .ge 40, 3) := by decide +kernel
theorem dX1_fill_23 : decode cX1_fill 23 = .ok (.aload_n 0, 1) := by decide +kernel
theorem dX1_fill_24 : decode cX1_fill 24 = .ok (.getfield 9, 3) := by decide +kernel
theorem dX1_fill_27 : decode cX1_fill 27 = .ok (.iload 5, 2) := by decide +kernel
theorem dX1_fill_29 : decode cX1_fill 29 = .ok (.aload_n 2, 1) := by decide +kernel
theorem dX1_fill_30 : decode cX1_fill 30 = .ok (.iload_n 3, 1) := by decide +kernel
theorem dX1_fill_31 : decode cX1_fill 31 = .ok (.iload 5, 2) := by decide +kernel
theorem dX1_fill_33 : decode cX1_fill 33 = .ok (.iadd, 1) := by decide +kernel
theorem dX1_fill_34 : decode cX1_fill 34 = .ok (.invokevirtual 34, 3) := by decide +kernel
theorem dX1_fill_37 : decode cX1_fill 37 = .ok (.iastore, 1) := by decide +kernel
theorem dX1_fill_38 : decode cX1_fill 38 = .ok (.aload_n 1, 1) := by decide +kernel
theorem dX1_fill_39 : decode cX1_fill 39 = .ok (.aload_n 0, 1) := by decide +kernel
theorem dX1_fill_40 : decode cX1_fill 40 = .ok (.getfield 9, 3) := by decide +kernel
theorem dX1_fill_43 : decode cX1_fill 43 = .ok (.iload 5, 2) := by decide +kernel
theorem dX1_fill_45 : decode cX1_fill 45 = .ok (.iaload, 1) := by decide +kernel
theorem dX1_fill_46 : decode cX1_fill 46 = .ok (.invokevirtual 40, 3) := by decide +kernel
theorem dX1_fill_49 : decode cX1_fill 49 = .ok (.ifCond .ne 5, 3) := by decide +kernel
theorem dX1_fill_52 : decode cX1_fill 52 = .ok (.iconst 0, 1) := by decide +kernel
theorem dX1_fill_53 : decode cX1_fill 53 = .ok (.ireturn, 1) := by decide +kernel
theorem dX1_fill_54 : decode cX1_fill 54 = .ok (.iinc 5 1, 3) := by decide +kernel
theorem dX1_fill_57 : decode cX1_fill 57 = .ok (.goto (-43), 3) := by decide +kernel
theorem dX1_fill_60 : decode cX1_fill 60 = .ok (.iconst 0, 1) := by decide +kernel
theorem dX1_fill_61 : decode cX1_fill 61 = .ok (.istore 5, 2) := by decide +kernel
theorem dX1_fill_63 : decode cX1_fill 63 = .ok (.iload 5, 2) := by decide +kernel
theorem dX1_fill_65 : decode cX1_fill 65 = .ok (.aload_n 0, 1) := by decide +kernel
theorem dX1_fill_66 : decode cX1_fill 66 = .ok (.getfield 30, 3) := by decide +kernel
theorem dX1_fill_69 : decode cX1_fill 69 = .ok (.if_icmp .ge 58, 3) := by decide +kernel
theorem dX1_fill_72 : decode cX1_fill 72 = .ok (.iconst 0, 1) := by decide +kernel
theorem dX1_fill_73 : decode cX1_fill 73 = .ok (.istore 6, 2) := by decide +kernel
theorem dX1_fill_75 : decode cX1_fill 75 = .ok (.iload 6, 2) := by decide +kernel
theorem dX1_fill_77 : decode cX1_fill 77 = .ok (.aload_n 0, 1) := by decide +kernel
theorem dX1_fill_78 : decode cX1_fill 78 = .ok (.getfield 30, 3) := by decide +kernel
theorem dX1_fill_81 : decode cX1_fill 81 = .ok (.if_icmp .ge 40, 3) := by decide +kernel
theorem dX1_fill_84 : decode cX1_fill 84 = .ok (.aload_n 0, 1) := by decide +kernel
theorem dX1_fill_85 : decode cX1_fill 85 = .ok (.getfield 15, 3) := by decide +kernel
theorem dX1_fill_88 : decode cX1_fill 88 = .ok (.iload 5, 2) := by decide +kernel
theorem dX1_fill_90 : decode cX1_fill 90 = .ok (.bipush 6, 2) := by decide +kernel
theorem dX1_fill_92 : decode cX1_fill 92 = .ok (.imul, 1) := by decide +kernel
theorem dX1_fill_93 : decode cX1_fill 93 = .ok (.iload 6, 2) := by decide +kernel
theorem dX1_fill_95 : decode cX1_fill 95 = .ok (.iadd, 1) := by decide +kernel
theorem dX1_fill_96 : decode cX1_fill 96 = .ok (.aload_n 1, 1) := by decide +kernel
theorem dX1_fill_97 : decode cX1_fill 97 = .ok (.aload_n 0, 1) := by decide +kernel
theorem dX1_fill_98 : decode cX1_fill 98 = .ok (.getfield 9, 3) := by decide +kernel
theorem dX1_fill_101 : decode cX1_fill 101 = .ok (.iload 5, 2) := by decide +kernel
theorem dX1_fill_103 : decode cX1_fill 103 = .ok (.iaload, 1) := by decide +kernel
theorem dX1_fill_104 : decode cX1_fill 104 = .ok (.aload_n 0, 1) := by decide +kernel
theorem dX1_fill_105 : decode cX1_fill 105 = .ok (.getfield 9, 3) := by decide +kernel
theorem dX1_fill_108 : decode cX1_fill 108 = .ok (.iload 6, 2) := by decide +kernel
theorem dX1_fill_110 : decode cX1_fill 110 = .ok (.iaload, 1) := by decide +kernel
theorem dX1_fill_111 : decode cX1_fill 111 = .ok (.invokevirtual 46, 3) := by decide +kernel
theorem dX1_fill_114 : decode cX1_fill 114 = .ok (.iastore, 1) := by decide +kernel
theorem dX1_fill_115 : decode cX1_fill 115 = .ok (.iinc 6 1, 3) := by decide +kernel
theorem dX1_fill_118 : decode cX1_fill 118 = .ok (.goto (-43), 3) := by decide +kernel
theorem dX1_fill_121 : decode cX1_fill 121 = .ok (.iinc 5 1, 3) := by decide +kernel
theorem dX1_fill_124 : decode cX1_fill 124 = .ok (.goto (-61), 3) := by decide +kernel
theorem dX1_fill_127 : decode cX1_fill 127 = .ok (.iconst 1, 1) := by decide +kernel
theorem dX1_fill_128 : decode cX1_fill 128 = .ok (.ireturn, 1) := by decide +kernel
theorem dX1_search_0 : decode cX1_search 0 = .ok (.aload_n 0, 1) := by decide +kernel
theorem dX1_search_1 : decode cX1_search 1 = .ok (.sipush 169, 3) := by decide +kernel
theorem dX1_search_4 : decode cX1_search 4 = .ok (.putfield 49, 3) := by decide +kernel
theorem dX1_search_7 : decode cX1_search 7 = .ok (.aload_n 0, 1) := by decide +kernel
theorem dX1_search_8 : decode cX1_search 8 = .ok (.iconst 0, 1) := by decide +kernel
theorem dX1_search_9 : decode cX1_search 9 = .ok (.iconst 0, 1) := by decide +kernel
theorem dX1_search_10 : decode cX1_search 10 = .ok (.iconst 0, 1) := by decide +kernel
theorem dX1_search_11 : decode cX1_search 11 = .ok (.invokevirtual 52, 3) := by decide +kernel
theorem dX1_search_14 : decode cX1_search 14 = .ok (.return_, 1) := by decide +kernel
theorem dX1_extend_0 : decode cX1_extend 0 = .ok (.iload_n 3, 1) := by decide +kernel
theorem dX1_extend_1 : decode cX1_extend 1 = .ok (.aload_n 0, 1) := by decide +kernel
theorem dX1_extend_2 : decode cX1_extend 2 = .ok (.getfield 49, 3) := by decide +kernel
theorem dX1_extend_5 : decode cX1_extend 5 = .ok (.if_icmp .lt 4, 3) := by decide +kernel
theorem dX1_extend_8 : decode cX1_extend 8 = .ok (.return_, 1) := by decide +kernel
theorem dX1_extend_9 : decode cX1_extend 9 = .ok (.iload_n 1, 1) := by decide +kernel
theorem dX1_extend_10 : decode cX1_extend 10 = .ok (.aload_n 0, 1) := by decide +kernel
theorem dX1_extend_11 : decode cX1_extend 11 = .ok (.getfield 30, 3) := by decide +kernel
theorem dX1_extend_14 : decode cX1_extend 14 = .ok (.if_icmp .lt 26, 3) := by decide +kernel
theorem dX1_extend_17 : decode cX1_extend 17 = .ok (.aload_n 0, 1) := by decide +kernel
theorem dX1_extend_18 : decode cX1_extend 18 = .ok (.iload_n 3, 1) := by decide +kernel
theorem dX1_extend_19 : decode cX1_extend 19 = .ok (.putfield 49, 3) := by decide +kernel
theorem dX1_extend_22 : decode cX1_extend 22 = .ok (.aload_n 0, 1) := by decide +kernel
theorem dX1_extend_23 : decode cX1_extend 23 = .ok (.getfield 18, 3) := by decide +kernel
theorem dX1_extend_26 : decode cX1_extend 26 = .ok (.iconst 0, 1) := by decide +kernel
theorem dX1_extend_27 : decode cX1_extend 27 = .ok (.aload_n 0, 1) := by decide +kernel
theorem dX1_extend_28 : decode cX1_extend 28 = .ok (.getfield 21, 3) := by decide +kernel
theorem dX1_extend_31 : decode cX1_extend 31 = .ok (.iconst 0, 1) := by decide +kernel
theorem dX1_extend_32 : decode cX1_extend 32 = .ok (.aload_n 0, 1) := by decide +kernel
theorem dX1_extend_33 : decode cX1_extend 33 = .ok (.getfield 30, 3) := by decide +kernel
theorem dX1_extend_36 : decode cX1_extend 36 = .ok (.invokestatic 56, 3) := by decide +kernel
theorem dX1_extend_39 : decode cX1_extend 39 = .ok (.return_, 1) := by decide +kernel
theorem dX1_extend_40 : decode cX1_extend 40 = .ok (.iconst 0, 1) := by decide +kernel
theorem dX1_extend_41 : decode cX1_extend 41 = .ok (.istore 4, 2) := by decide +kernel
theorem dX1_extend_43 : decode cX1_extend 43 = .ok (.iload 4, 2) := by decide +kernel
theorem dX1_extend_45 : decode cX1_extend 45 = .ok (.aload_n 0, 1) := by decide +kernel
theorem dX1_extend_46 : decode cX1_extend 46 = .ok (.getfield 30, 3) := by decide +kernel
theorem dX1_extend_49 : decode cX1_extend 49 = .ok (.if_icmp .ge 72, 3) := by decide +kernel
theorem dX1_extend_52 : decode cX1_extend 52 = .ok (.iload_n 2, 1) := by decide +kernel
theorem dX1_extend_53 : decode cX1_extend 53 = .ok (.iload 4, 2) := by decide +kernel
theorem dX1_extend_55 : decode cX1_extend 55 = .ok (.ishr, 1) := by decide +kernel
theorem dX1_extend_56 : decode cX1_extend 56 = .ok (.iconst 1, 1) := by decide +kernel
theorem dX1_extend_57 : decode cX1_extend 57 = .ok (.iand, 1) := by decide +kernel
theorem dX1_extend_58 : decode cX1_extend 58 = .ok (.ifCond .ne 57, 3) := by decide +kernel
theorem dX1_extend_61 : decode cX1_extend 61 = .ok (.aload_n 0, 1) := by decide +kernel
theorem dX1_extend_62 : decode cX1_extend 62 = .ok (.getfield 18, 3) := by decide +kernel
theorem dX1_extend_65 : decode cX1_extend 65 = .ok (.iload_n 1, 1) := by decide +kernel
theorem dX1_extend_66 : decode cX1_extend 66 = .ok (.iload 4, 2) := by decide +kernel
theorem dX1_extend_68 : decode cX1_extend 68 = .ok (.iastore, 1) := by decide +kernel
theorem dX1_extend_69 : decode cX1_extend 69 = .ok (.iload_n 1, 1) := by decide +kernel
theorem dX1_extend_70 : decode cX1_extend 70 = .ok (.ifCond .ne 7, 3) := by decide +kernel
theorem dX1_extend_73 : decode cX1_extend 73 = .ok (.iconst 0, 1) := by decide +kernel
theorem dX1_extend_74 : decode cX1_extend 74 = .ok (.goto 22, 3) := by decide +kernel
theorem dX1_extend_77 : decode cX1_extend 77 = .ok (.aload_n 0, 1) := by decide +kernel
theorem dX1_extend_78 : decode cX1_extend 78 = .ok (.getfield 15, 3) := by decide +kernel
theorem dX1_extend_81 : decode cX1_extend 81 = .ok (.aload_n 0, 1) := by decide +kernel
theorem dX1_extend_82 : decode cX1_extend 82 = .ok (.getfield 18, 3) := by decide +kernel
theorem dX1_extend_85 : decode cX1_extend 85 = .ok (.iload_n 1, 1) := by decide +kernel
theorem dX1_extend_86 : decode cX1_extend 86 = .ok (.iconst 1, 1) := by decide +kernel
theorem dX1_extend_87 : decode cX1_extend 87 = .ok (.isub, 1) := by decide +kernel
theorem dX1_extend_88 : decode cX1_extend 88 = .ok (.iaload, 1) := by decide +kernel
theorem dX1_extend_89 : decode cX1_extend 89 = .ok (.bipush 6, 2) := by decide +kernel
theorem dX1_extend_91 : decode cX1_extend 91 = .ok (.imul, 1) := by decide +kernel
theorem dX1_extend_92 : decode cX1_extend 92 = .ok (.iload 4, 2) := by decide +kernel
theorem dX1_extend_94 : decode cX1_extend 94 = .ok (.iadd, 1) := by decide +kernel
theorem dX1_extend_95 : decode cX1_extend 95 = .ok (.iaload, 1) := by decide +kernel
theorem dX1_extend_96 : decode cX1_extend 96 = .ok (.istore 5, 2) := by decide +kernel
theorem dX1_extend_98 : decode cX1_extend 98 = .ok (.aload_n 0, 1) := by decide +kernel
theorem dX1_extend_99 : decode cX1_extend 99 = .ok (.iload_n 1, 1) := by decide +kernel
theorem dX1_extend_100 : decode cX1_extend 100 = .ok (.iconst 1, 1) := by decide +kernel
theorem dX1_extend_101 : decode cX1_extend 101 = .ok (.iadd, 1) := by decide +kernel
theorem dX1_extend_102 : decode cX1_extend 102 = .ok (.iload_n 2, 1) := by decide +kernel
theorem dX1_extend_103 : decode cX1_extend 103 = .ok (.iconst 1, 1) := by decide +kernel
theorem dX1_extend_104 : decode cX1_extend 104 = .ok (.iload 4, 2) := by decide +kernel
theorem dX1_extend_106 : decode cX1_extend 106 = .ok (.ishl, 1) := by decide +kernel
theorem dX1_extend_107 : decode cX1_extend 107 = .ok (.ior, 1) := by decide +kernel
theorem dX1_extend_108 : decode cX1_extend 108 = .ok (.iload_n 3, 1) := by decide +kernel
theorem dX1_extend_109 : decode cX1_extend 109 = .ok (.iload 5, 2) := by decide +kernel
theorem dX1_extend_111 : decode cX1_extend 111 = .ok (.iadd, 1) := by decide +kernel
theorem dX1_extend_112 : decode cX1_extend 112 = .ok (.invokevirtual 52, 3) := by decide +kernel
theorem dX1_extend_115 : decode cX1_extend 115 = .ok (.iinc 4 1, 3) := by decide +kernel
theorem dX1_extend_118 : decode cX1_extend 118 = .ok (.goto (-75), 3) := by decide +kernel
theorem dX1_extend_121 : decode cX1_extend 121 = .ok (.return_, 1) := by decide +kernel
theorem dX1_fewest_0 : decode cX1_fewest 0 = .ok (.aload_n 0, 1) := by decide +kernel
theorem dX1_fewest_1 : decode cX1_fewest 1 = .ok (.getfield 49, 3) := by decide +kernel
theorem dX1_fewest_4 : decode cX1_fewest 4 = .ok (.ireturn, 1) := by decide +kernel
theorem dX1_placeOf_0 : decode cX1_placeOf 0 = .ok (.iload_n 1, 1) := by decide +kernel
theorem dX1_placeOf_1 : decode cX1_placeOf 1 = .ok (.aload_n 0, 1) := by decide +kernel
theorem dX1_placeOf_2 : decode cX1_placeOf 2 = .ok (.getfield 30, 3) := by decide +kernel
theorem dX1_placeOf_5 : decode cX1_placeOf 5 = .ok (.invokestatic 62, 3) := by decide +kernel
theorem dX1_placeOf_8 : decode cX1_placeOf 8 = .ok (.ifCond .eq 12, 3) := by decide +kernel
theorem dX1_placeOf_11 : decode cX1_placeOf 11 = .ok (.aload_n 0, 1) := by decide +kernel
theorem dX1_placeOf_12 : decode cX1_placeOf 12 = .ok (.getfield 21, 3) := by decide +kernel
theorem dX1_placeOf_15 : decode cX1_placeOf 15 = .ok (.iload_n 1, 1) := by decide +kernel
theorem dX1_placeOf_16 : decode cX1_placeOf 16 = .ok (.iaload, 1) := by decide +kernel
theorem dX1_placeOf_17 : decode cX1_placeOf 17 = .ok (.goto 5, 3) := by decide +kernel
theorem dX1_placeOf_20 : decode cX1_placeOf 20 = .ok (.bipush (-9), 2) := by decide +kernel
theorem dX1_placeOf_22 : decode cX1_placeOf 22 = .ok (.ireturn, 1) := by decide +kernel
theorem dX2_init_0 : decode cX2_init 0 = .ok (.aload_n 0, 1) := by decide +kernel
theorem dX2_init_1 : decode cX2_init 1 = .ok (.invokespecial 3, 3) := by decide +kernel
theorem dX2_init_4 : decode cX2_init 4 = .ok (.aload_n 0, 1) := by decide +kernel
theorem dX2_init_5 : decode cX2_init 5 = .ok (.iconst 4, 1) := by decide +kernel
theorem dX2_init_6 : decode cX2_init 6 = .ok (.anewarray 9, 3) := by decide +kernel
theorem dX2_init_9 : decode cX2_init 9 = .ok (.putfield 11, 3) := by decide +kernel
theorem dX2_init_12 : decode cX2_init 12 = .ok (.new 17, 3) := by decide +kernel
theorem dX2_init_15 : decode cX2_init 15 = .ok (.dup, 1) := by decide +kernel
theorem dX2_init_16 : decode cX2_init 16 = .ok (.invokespecial 19, 3) := by decide +kernel
theorem dX2_init_19 : decode cX2_init 19 = .ok (.astore_n 1, 1) := by decide +kernel
theorem dX2_init_20 : decode cX2_init 20 = .ok (.iconst 0, 1) := by decide +kernel
theorem dX2_init_21 : decode cX2_init 21 = .ok (.istore_n 2, 1) := by decide +kernel
theorem dX2_init_22 : decode cX2_init 22 = .ok (.iload_n 2, 1) := by decide +kernel
theorem dX2_init_23 : decode cX2_init 23 = .ok (.iconst 4, 1) := by decide +kernel
theorem dX2_init_24 : decode cX2_init 24 = .ok (.if_icmp .ge 23, 3) := by decide +kernel
theorem dX2_init_27 : decode cX2_init 27 = .ok (.aload_n 0, 1) := by decide +kernel
theorem dX2_init_28 : decode cX2_init 28 = .ok (.getfield 11, 3) := by decide +kernel
theorem dX2_init_31 : decode cX2_init 31 = .ok (.iload_n 2, 1) := by decide +kernel
theorem dX2_init_32 : decode cX2_init 32 = .ok (.new 9, 3) := by decide +kernel
theorem dX2_init_35 : decode cX2_init 35 = .ok (.dup, 1) := by decide +kernel
theorem dX2_init_36 : decode cX2_init 36 = .ok (.aload_n 1, 1) := by decide +kernel
theorem dX2_init_37 : decode cX2_init 37 = .ok (.invokespecial 20, 3) := by decide +kernel
theorem dX2_init_40 : decode cX2_init 40 = .ok (.aastore, 1) := by decide +kernel
theorem dX2_init_41 : decode cX2_init 41 = .ok (.iinc 2 1, 3) := by decide +kernel
theorem dX2_init_44 : decode cX2_init 44 = .ok (.goto (-22), 3) := by decide +kernel
theorem dX2_init_47 : decode cX2_init 47 = .ok (.return_, 1) := by decide +kernel
theorem dX2_renew_0 : decode cX2_renew 0 = .ok (.aload_n 0, 1) := by decide +kernel
theorem dX2_renew_1 : decode cX2_renew 1 = .ok (.iconst 0, 1) := by decide +kernel
theorem dX2_renew_2 : decode cX2_renew 2 = .ok (.iload_n 2, 1) := by decide +kernel
theorem dX2_renew_3 : decode cX2_renew 3 = .ok (.iconst 4, 1) := by decide +kernel
theorem dX2_renew_4 : decode cX2_renew 4 = .ok (.invokestatic 23, 3) := by decide +kernel
theorem dX2_renew_7 : decode cX2_renew 7 = .ok (.invokestatic 29, 3) := by decide +kernel
theorem dX2_renew_10 : decode cX2_renew 10 = .ok (.putfield 32, 3) := by decide +kernel
theorem dX2_renew_13 : decode cX2_renew 13 = .ok (.aload_n 0, 1) := by decide +kernel
theorem dX2_renew_14 : decode cX2_renew 14 = .ok (.iload_n 1, 1) := by decide +kernel
theorem dX2_renew_15 : decode cX2_renew 15 = .ok (.putfield 36, 3) := by decide +kernel
theorem dX2_renew_18 : decode cX2_renew 18 = .ok (.aload_n 0, 1) := by decide +kernel
theorem dX2_renew_19 : decode cX2_renew 19 = .ok (.iconst 0, 1) := by decide +kernel
theorem dX2_renew_20 : decode cX2_renew 20 = .ok (.putfield 39, 3) := by decide +kernel
theorem dX2_renew_23 : decode cX2_renew 23 = .ok (.iconst 1, 1) := by decide +kernel
theorem dX2_renew_24 : decode cX2_renew 24 = .ok (.istore_n 3, 1) := by decide +kernel
theorem dX2_renew_25 : decode cX2_renew 25 = .ok (.iconst 0, 1) := by decide +kernel
theorem dX2_renew_26 : decode cX2_renew 26 = .ok (.istore 4, 2) := by decide +kernel
theorem dX2_renew_28 : decode cX2_renew 28 = .ok (.iload 4, 2) := by decide +kernel
theorem dX2_renew_30 : decode cX2_renew 30 = .ok (.aload_n 0, 1) := by decide +kernel
theorem dX2_renew_31 : decode cX2_renew 31 = .ok (.getfield 32, 3) := by decide +kernel
theorem dX2_renew_34 : decode cX2_renew 34 = .ok (.if_icmp .ge 14, 3) := by decide +kernel
theorem dX2_renew_37 : decode cX2_renew 37 = .ok (.iload_n 3, 1) := by decide +kernel
theorem dX2_renew_38 : decode cX2_renew 38 = .ok (.bipush 10, 2) := by decide +kernel
theorem dX2_renew_40 : decode cX2_renew 40 = .ok (.imul, 1) := by decide +kernel
theorem dX2_renew_41 : decode cX2_renew 41 = .ok (.istore_n 3, 1) := by decide +kernel
theorem dX2_renew_42 : decode cX2_renew 42 = .ok (.iinc 4 1, 3) := by decide +kernel
theorem dX2_renew_45 : decode cX2_renew 45 = .ok (.goto (-17), 3) := by decide +kernel
theorem dX2_renew_48 : decode cX2_renew 48 = .ok (.aload_n 0, 1) := by decide +kernel
theorem dX2_renew_49 : decode cX2_renew 49 = .ok (.iload_n 3, 1) := by decide +kernel
theorem dX2_renew_50 : decode cX2_renew 50 = .ok (.iconst 1, 1) := by decide +kernel
theorem dX2_renew_51 : decode cX2_renew 51 = .ok (.isub, 1) := by decide +kernel
theorem dX2_renew_52 : decode cX2_renew 52 = .ok (.putfield 42, 3) := by decide +kernel
theorem dX2_renew_55 : decode cX2_renew 55 = .ok (.return_, 1) := by decide +kernel
theorem dX2_isNone_0 : decode cX2_isNone 0 = .ok (.aload_n 0, 1) := by decide +kernel
theorem dX2_isNone_1 : decode cX2_isNone 1 = .ok (.getfield 32, 3) := by decide +kernel
theorem dX2_isNone_4 : decode cX2_isNone 4 = .ok (.ifCond .ne 7, 3) := by decide +kernel
theorem dX2_isNone_7 : decode cX2_isNone 7 = .ok (.iconst 1, 1) := by decide +kernel
theorem dX2_isNone_8 : decode cX2_isNone 8 = .ok (.goto 4, 3) := by decide +kernel
theorem dX2_isNone_11 : decode cX2_isNone 11 = .ok (.iconst 0, 1) := by decide +kernel
theorem dX2_isNone_12 : decode cX2_isNone 12 = .ok (.ireturn, 1) := by decide +kernel
theorem dX2_isNumber_0 : decode cX2_isNumber 0 = .ok (.iconst 0, 1) := by decide +kernel
theorem dX2_isNumber_1 : decode cX2_isNumber 1 = .ok (.iload_n 1, 1) := by decide +kernel
theorem dX2_isNumber_2 : decode cX2_isNumber 2 = .ok (.if_icmp .gt 15, 3) := by decide +kernel
theorem dX2_isNumber_5 : decode cX2_isNumber 5 = .ok (.iload_n 1, 1) := by decide +kernel
theorem dX2_isNumber_6 : decode cX2_isNumber 6 = .ok (.aload_n 0, 1) := by decide +kernel
theorem dX2_isNumber_7 : decode cX2_isNumber 7 = .ok (.getfield 42, 3) := by decide +kernel
theorem dX2_isNumber_10 : decode cX2_isNumber 10 = .ok (.if_icmp .gt 7, 3) := by decide +kernel
theorem dX2_isNumber_13 : decode cX2_isNumber 13 = .ok (.iconst 1, 1) := by decide +kernel
theorem dX2_isNumber_14 : decode cX2_isNumber 14 = .ok (.goto 4, 3) := by decide +kernel
theorem dX2_isNumber_17 : decode cX2_isNumber 17 = .ok (.iconst 0, 1) := by decide +kernel
theorem dX2_isNumber_18 : decode cX2_isNumber 18 = .ok (.ireturn, 1) := by decide +kernel
theorem dX2_digitOf_0 : decode cX2_digitOf 0 = .ok (.iload_n 1, 1) := by decide +kernel
theorem dX2_digitOf_1 : decode cX2_digitOf 1 = .ok (.istore_n 3, 1) := by decide +kernel
theorem dX2_digitOf_2 : decode cX2_digitOf 2 = .ok (.aload_n 0, 1) := by decide +kernel
theorem dX2_digitOf_3 : decode cX2_digitOf 3 = .ok (.getfield 32, 3) := by decide +kernel
theorem dX2_digitOf_6 : decode cX2_digitOf 6 = .ok (.iconst 1, 1) := by decide +kernel
theorem dX2_digitOf_7 : decode cX2_digitOf 7 = .ok (.isub, 1) := by decide +kernel
theorem dX2_digitOf_8 : decode cX2_digitOf 8 = .ok (.istore 4, 2) := by decide +kernel
theorem dX2_digitOf_10 : decode cX2_digitOf 10 = .ok (.iload 4, 2) := by decide +kernel
theorem dX2_digitOf_12 : decode cX2_digitOf 12 = .ok (.iload_n 2, 1) := by decide +kernel
theorem dX2_digitOf_13 : decode cX2_digitOf 13 = .ok (.if_icmp .le 14, 3) := by decide +kernel
theorem dX2_digitOf_16 : decode cX2_digitOf 16 = .ok (.iload_n 3, 1) := by decide +kernel
theorem dX2_digitOf_17 : decode cX2_digitOf 17 = .ok (.bipush 10, 2) := by decide +kernel
theorem dX2_digitOf_19 : decode cX2_digitOf 19 = .ok (.idiv, 1) := by decide +kernel
theorem dX2_digitOf_20 : decode cX2_digitOf 20 = .ok (.istore_n 3, 1) := by decide +kernel
theorem dX2_digitOf_21 : decode cX2_digitOf 21 = .ok (.iinc 4 (-1), 3) := by decide +kernel
theorem dX2_digitOf_24 : decode cX2_digitOf 24 = .ok (.goto (-14), 3) := by decide +kernel
theorem dX2_digitOf_27 : decode cX2_digitOf 27 = .ok (.iload_n 3, 1) := by decide +kernel
theorem dX2_digitOf_28 : decode cX2_digitOf 28 = .ok (.bipush 10, 2) := by decide +kernel
theorem dX2_digitOf_30 : decode cX2_digitOf 30 = .ok (.irem, 1) := by decide +kernel
theorem dX2_digitOf_31 : decode cX2_digitOf 31 = .ok (.ireturn, 1) := by decide +kernel
theorem dX2_deadBars_0 : decode cX2_deadBars 0 = .ok (.iconst 0, 1) := by decide +kernel
theorem dX2_deadBars_1 : decode cX2_deadBars 1 = .ok (.istore_n 1, 1) := by decide +kernel
theorem dX2_deadBars_2 : decode cX2_deadBars 2 = .ok (.iconst 0, 1) := by decide +kernel
theorem dX2_deadBars_3 : decode cX2_deadBars 3 = .ok (.istore_n 2, 1) := by decide +kernel
theorem dX2_deadBars_4 : decode cX2_deadBars 4 = .ok (.iload_n 2, 1) := by decide +kernel
theorem dX2_deadBars_5 : decode cX2_deadBars 5 = .ok (.aload_n 0, 1) := by decide +kernel
theorem dX2_deadBars_6 : decode cX2_deadBars 6 = .ok (.getfield 32, 3) := by decide +kernel
theorem dX2_deadBars_9 : decode cX2_deadBars 9 = .ok (.if_icmp .ge 24, 3) := by decide +kernel
theorem dX2_deadBars_12 : decode cX2_deadBars 12 = .ok (.iload_n 1, 1) := by decide +kernel
theorem dX2_deadBars_13 : decode cX2_deadBars 13 = .ok (.aload_n 0, 1) := by decide +kernel
theorem dX2_deadBars_14 : decode cX2_deadBars 14 = .ok (.getfield 11, 3) := by decide +kernel
theorem dX2_deadBars_17 : decode cX2_deadBars 17 = .ok (.iload_n 2, 1) := by decide +kernel
theorem dX2_deadBars_18 : decode cX2_deadBars 18 = .ok (.aaload, 1) := by decide +kernel
theorem dX2_deadBars_19 : decode cX2_deadBars 19 = .ok (.getfield 45, 3) := by decide +kernel
theorem dX2_deadBars_22 : decode cX2_deadBars 22 = .ok (.invokestatic 48, 3) := by decide +kernel
theorem dX2_deadBars_25 : decode cX2_deadBars 25 = .ok (.iadd, 1) := by decide +kernel
theorem dX2_deadBars_26 : decode cX2_deadBars 26 = .ok (.istore_n 1, 1) := by decide +kernel
theorem dX2_deadBars_27 : decode cX2_deadBars 27 = .ok (.iinc 2 1, 3) := by decide +kernel
theorem dX2_deadBars_30 : decode cX2_deadBars 30 = .ok (.goto (-26), 3) := by decide +kernel
theorem dX2_deadBars_33 : decode cX2_deadBars 33 = .ok (.iload_n 1, 1) := by decide +kernel
theorem dX2_deadBars_34 : decode cX2_deadBars 34 = .ok (.ireturn, 1) := by decide +kernel
theorem dX2_litBars_0 : decode cX2_litBars 0 = .ok (.iconst 0, 1) := by decide +kernel
theorem dX2_litBars_1 : decode cX2_litBars 1 = .ok (.istore_n 2, 1) := by decide +kernel
theorem dX2_litBars_2 : decode cX2_litBars 2 = .ok (.iconst 0, 1) := by decide +kernel
theorem dX2_litBars_3 : decode cX2_litBars 3 = .ok (.istore_n 3, 1) := by decide +kernel
theorem dX2_litBars_4 : decode cX2_litBars 4 = .ok (.iload_n 3, 1) := by decide +kernel
theorem dX2_litBars_5 : decode cX2_litBars 5 = .ok (.aload_n 0, 1) := by decide +kernel
theorem dX2_litBars_6 : decode cX2_litBars 6 = .ok (.getfield 32, 3) := by decide +kernel
theorem dX2_litBars_9 : decode cX2_litBars 9 = .ok (.if_icmp .ge 30, 3) := by decide +kernel
theorem dX2_litBars_12 : decode cX2_litBars 12 = .ok (.iload_n 2, 1) := by decide +kernel
theorem dX2_litBars_13 : decode cX2_litBars 13 = .ok (.aload_n 0, 1) := by decide +kernel
theorem dX2_litBars_14 : decode cX2_litBars 14 = .ok (.getfield 11, 3) := by decide +kernel
theorem dX2_litBars_17 : decode cX2_litBars 17 = .ok (.iload_n 3, 1) := by decide +kernel
theorem dX2_litBars_18 : decode cX2_litBars 18 = .ok (.aaload, 1) := by decide +kernel
theorem dX2_litBars_19 : decode cX2_litBars 19 = .ok (.aload_n 0, 1) := by decide +kernel
theorem dX2_litBars_20 : decode cX2_litBars 20 = .ok (.iload_n 1, 1) := by decide +kernel
theorem dX2_litBars_21 : decode cX2_litBars 21 = .ok (.iload_n 3, 1) := by decide +kernel
theorem dX2_litBars_22 : decode cX2_litBars 22 = .ok (.invokevirtual 54, 3) := by decide +kernel
theorem dX2_litBars_25 : decode cX2_litBars 25 = .ok (.invokevirtual 57, 3) := by decide +kernel
theorem dX2_litBars_28 : decode cX2_litBars 28 = .ok (.invokestatic 48, 3) := by decide +kernel
theorem dX2_litBars_31 : decode cX2_litBars 31 = .ok (.iadd, 1) := by decide +kernel
theorem dX2_litBars_32 : decode cX2_litBars 32 = .ok (.istore_n 2, 1) := by decide +kernel
theorem dX2_litBars_33 : decode cX2_litBars 33 = .ok (.iinc 3 1, 3) := by decide +kernel
theorem dX2_litBars_36 : decode cX2_litBars 36 = .ok (.goto (-32), 3) := by decide +kernel
theorem dX2_litBars_39 : decode cX2_litBars 39 = .ok (.iload_n 2, 1) := by decide +kernel
theorem dX2_litBars_40 : decode cX2_litBars 40 = .ok (.ireturn, 1) := by decide +kernel
theorem dX2_flipsBetween_0 : decode cX2_flipsBetween 0 = .ok (.iconst 0, 1) := by decide +kernel
theorem dX2_flipsBetween_1 : decode cX2_flipsBetween 1 = .ok (.istore_n 3, 1) := by decide +kernel
theorem dX2_flipsBetween_2 : decode cX2_flipsBetween 2 = .ok (.iconst 0, 1) := by decide +kernel
theorem dX2_flipsBetween_3 : decode cX2_flipsBetween 3 = .ok (.istore 4, 2) := by decide +kernel
theorem dX2_flipsBetween_5 : decode cX2_flipsBetween 5 = .ok (.iload 4, 2) := by decide +kernel
theorem dX2_flipsBetween_7 : decode cX2_flipsBetween 7 = .ok (.aload_n 0, 1) := by decide +kernel
theorem dX2_flipsBetween_8 : decode cX2_flipsBetween 8 = .ok (.getfield 32, 3) := by decide +kernel
theorem dX2_flipsBetween_11 : decode cX2_flipsBetween 11 = .ok (.if_icmp .ge 50, 3) := by decide +kernel
theorem dX2_flipsBetween_14 : decode cX2_flipsBetween 14 = .ok (.iload_n 3, 1) := by decide +kernel
theorem dX2_flipsBetween_15 : decode cX2_flipsBetween 15 = .ok (.aload_n 0, 1) := by decide +kernel
theorem dX2_flipsBetween_16 : decode cX2_flipsBetween 16 = .ok (.getfield 11, 3) := by decide +kernel
theorem dX2_flipsBetween_19 : decode cX2_flipsBetween 19 = .ok (.iload 4, 2) := by decide +kernel
theorem dX2_flipsBetween_21 : decode cX2_flipsBetween 21 = .ok (.aaload, 1) := by decide +kernel
theorem dX2_flipsBetween_22 : decode cX2_flipsBetween 22 = .ok (.aload_n 0, 1) := by decide +kernel
theorem dX2_flipsBetween_23 : decode cX2_flipsBetween 23 = .ok (.iload_n 1, 1) := by decide +kernel
theorem dX2_flipsBetween_24 : decode cX2_flipsBetween 24 = .ok (.iload 4, 2) := by decide +kernel
theorem dX2_flipsBetween_26 : decode cX2_flipsBetween 26 = .ok (.invokevirtual 54, 3) := by decide +kernel
theorem dX2_flipsBetween_29 : decode cX2_flipsBetween 29 = .ok (.invokevirtual 57, 3) := by decide +kernel
theorem dX2_flipsBetween_32 : decode cX2_flipsBetween 32 = .ok (.aload_n 0, 1) := by decide +kernel
theorem dX2_flipsBetween_33 : decode cX2_flipsBetween 33 = .ok (.getfield 11, 3) := by decide +kernel
theorem dX2_flipsBetween_36 : decode cX2_flipsBetween 36 = .ok (.iload 4, 2) := by decide +kernel
theorem dX2_flipsBetween_38 : decode cX2_flipsBetween 38 = .ok (.aaload, 1) := by decide +kernel
theorem dX2_flipsBetween_39 : decode cX2_flipsBetween 39 = .ok (.aload_n 0, 1) := by decide +kernel
theorem dX2_flipsBetween_40 : decode cX2_flipsBetween 40 = .ok (.iload_n 2, 1) := by decide +kernel
theorem dX2_flipsBetween_41 : decode cX2_flipsBetween 41 = .ok (.iload 4, 2) := by decide +kernel
theorem dX2_flipsBetween_43 : decode cX2_flipsBetween 43 = .ok (.invokevirtual 54, 3) := by decide +kernel
theorem dX2_flipsBetween_46 : decode cX2_flipsBetween 46 = .ok (.invokevirtual 57, 3) := by decide +kernel
theorem dX2_flipsBetween_49 : decode cX2_flipsBetween 49 = .ok (.ixor, 1) := by decide +kernel
theorem dX2_flipsBetween_50 : decode cX2_flipsBetween 50 = .ok (.invokestatic 48, 3) := by decide +kernel
theorem dX2_flipsBetween_53 : decode cX2_flipsBetween 53 = .ok (.iadd, 1) := by decide +kernel
theorem dX2_flipsBetween_54 : decode cX2_flipsBetween 54 = .ok (.istore_n 3, 1) := by decide +kernel
theorem dX2_flipsBetween_55 : decode cX2_flipsBetween 55 = .ok (.iinc 4 1, 3) := by decide +kernel
theorem dX2_flipsBetween_58 : decode cX2_flipsBetween 58 = .ok (.goto (-53), 3) := by decide +kernel
theorem dX2_flipsBetween_61 : decode cX2_flipsBetween 61 = .ok (.iload_n 3, 1) := by decide +kernel
theorem dX2_flipsBetween_62 : decode cX2_flipsBetween 62 = .ok (.ireturn, 1) := by decide +kernel
theorem dX2_nextDigit_0 : decode cX2_nextDigit 0 = .ok (.iload_n 0, 1) := by decide +kernel
theorem dX2_nextDigit_1 : decode cX2_nextDigit 1 = .ok (.bipush 9, 2) := by decide +kernel
theorem dX2_nextDigit_3 : decode cX2_nextDigit 3 = .ok (.if_icmp .lt 7, 3) := by decide +kernel
theorem dX2_nextDigit_6 : decode cX2_nextDigit 6 = .ok (.iconst 0, 1) := by decide +kernel
theorem dX2_nextDigit_7 : decode cX2_nextDigit 7 = .ok (.goto 6, 3) := by decide +kernel
theorem dX2_nextDigit_10 : decode cX2_nextDigit 10 = .ok (.iload_n 0, 1) := by decide +kernel
theorem dX2_nextDigit_11 : decode cX2_nextDigit 11 = .ok (.iconst 1, 1) := by decide +kernel
theorem dX2_nextDigit_12 : decode cX2_nextDigit 12 = .ok (.iadd, 1) := by decide +kernel
theorem dX2_nextDigit_13 : decode cX2_nextDigit 13 = .ok (.ireturn, 1) := by decide +kernel
theorem dX2_flipsOfStep_0 : decode cX2_flipsOfStep 0 = .ok (.iconst 0, 1) := by decide +kernel
theorem dX2_flipsOfStep_1 : decode cX2_flipsOfStep 1 = .ok (.istore_n 2, 1) := by decide +kernel
theorem dX2_flipsOfStep_2 : decode cX2_flipsOfStep 2 = .ok (.iload_n 1, 1) := by decide +kernel
theorem dX2_flipsOfStep_3 : decode cX2_flipsOfStep 3 = .ok (.istore_n 3, 1) := by decide +kernel
theorem dX2_flipsOfStep_4 : decode cX2_flipsOfStep 4 = .ok (.aload_n 0, 1) := by decide +kernel
theorem dX2_flipsOfStep_5 : decode cX2_flipsOfStep 5 = .ok (.getfield 32, 3) := by decide +kernel
theorem dX2_flipsOfStep_8 : decode cX2_flipsOfStep 8 = .ok (.iconst 1, 1) := by decide +kernel
theorem dX2_flipsOfStep_9 : decode cX2_flipsOfStep 9 = .ok (.isub, 1) := by decide +kernel
theorem dX2_flipsOfStep_10 : decode cX2_flipsOfStep 10 = .ok (.istore 4, 2) := by decide +kernel
theorem dX2_flipsOfStep_12 : decode cX2_flipsOfStep 12 = .ok (.iload 4, 2) := by decide +kernel
theorem dX2_flipsOfStep_14 : decode cX2_flipsOfStep 14 = .ok (.ifCond .lt 64, 3) := by decide +kernel
theorem dX2_flipsOfStep_17 : decode cX2_flipsOfStep 17 = .ok (.iload_n 3, 1) := by decide +kernel
theorem dX2_flipsOfStep_18 : decode cX2_flipsOfStep 18 = .ok (.bipush 10, 2) := by decide +kernel
theorem dX2_flipsOfStep_20 : decode cX2_flipsOfStep 20 = .ok (.irem, 1) := by decide +kernel
theorem dX2_flipsOfStep_21 : decode cX2_flipsOfStep 21 = .ok (.istore 5, 2) := by decide +kernel
theorem dX2_flipsOfStep_23 : decode cX2_flipsOfStep 23 = .ok (.iload_n 2, 1) := by decide +kernel
theorem dX2_flipsOfStep_24 : decode cX2_flipsOfStep 24 = .ok (.aload_n 0, 1) := by decide +kernel
theorem dX2_flipsOfStep_25 : decode cX2_flipsOfStep 25 = .ok (.getfield 11, 3) := by decide +kernel
theorem dX2_flipsOfStep_28 : decode cX2_flipsOfStep 28 = .ok (.iload 4, 2) := by decide +kernel
theorem dX2_flipsOfStep_30 : decode cX2_flipsOfStep 30 = .ok (.aaload, 1) := by decide +kernel
theorem dX2_flipsOfStep_31 : decode cX2_flipsOfStep 31 = .ok (.iload 5, 2) := by decide +kernel
theorem dX2_flipsOfStep_33 : decode cX2_flipsOfStep 33 = .ok (.invokevirtual 57, 3) := by decide +kernel
theorem dX2_flipsOfStep_36 : decode cX2_flipsOfStep 36 = .ok (.aload_n 0, 1) := by decide +kernel
theorem dX2_flipsOfStep_37 : decode cX2_flipsOfStep 37 = .ok (.getfield 11, 3) := by decide +kernel
theorem dX2_flipsOfStep_40 : decode cX2_flipsOfStep 40 = .ok (.iload 4, 2) := by decide +kernel
theorem dX2_flipsOfStep_42 : decode cX2_flipsOfStep 42 = .ok (.aaload, 1) := by decide +kernel
theorem dX2_flipsOfStep_43 : decode cX2_flipsOfStep 43 = .ok (.iload 5, 2) := by decide +kernel
theorem dX2_flipsOfStep_45 : decode cX2_flipsOfStep 45 = .ok (.invokestatic 60, 3) := by decide +kernel
theorem dX2_flipsOfStep_48 : decode cX2_flipsOfStep 48 = .ok (.invokevirtual 57, 3) := by decide +kernel
theorem dX2_flipsOfStep_51 : decode cX2_flipsOfStep 51 = .ok (.ixor, 1) := by decide +kernel
theorem dX2_flipsOfStep_52 : decode cX2_flipsOfStep 52 = .ok (.invokestatic 48, 3) := by decide +kernel
theorem dX2_flipsOfStep_55 : decode cX2_flipsOfStep 55 = .ok (.iadd, 1) := by decide +kernel
theorem dX2_flipsOfStep_56 : decode cX2_flipsOfStep 56 = .ok (.istore_n 2, 1) := by decide +kernel
theorem dX2_flipsOfStep_57 : decode cX2_flipsOfStep 57 = .ok (.iload 5, 2) := by decide +kernel
theorem dX2_flipsOfStep_59 : decode cX2_flipsOfStep 59 = .ok (.bipush 9, 2) := by decide +kernel
theorem dX2_flipsOfStep_61 : decode cX2_flipsOfStep 61 = .ok (.if_icmp .eq 6, 3) := by decide +kernel
theorem dX2_flipsOfStep_64 : decode cX2_flipsOfStep 64 = .ok (.goto 14, 3) := by decide +kernel
theorem dX2_flipsOfStep_67 : decode cX2_flipsOfStep 67 = .ok (.iload_n 3, 1) := by decide +kernel
theorem dX2_flipsOfStep_68 : decode cX2_flipsOfStep 68 = .ok (.bipush 10, 2) := by decide +kernel
theorem dX2_flipsOfStep_70 : decode cX2_flipsOfStep 70 = .ok (.idiv, 1) := by decide +kernel
theorem dX2_flipsOfStep_71 : decode cX2_flipsOfStep 71 = .ok (.istore_n 3, 1) := by decide +kernel
theorem dX2_flipsOfStep_72 : decode cX2_flipsOfStep 72 = .ok (.iinc 4 (-1), 3) := by decide +kernel
theorem dX2_flipsOfStep_75 : decode cX2_flipsOfStep 75 = .ok (.goto (-63), 3) := by decide +kernel
theorem dX2_flipsOfStep_78 : decode cX2_flipsOfStep 78 = .ok (.iload_n 2, 1) := by decide +kernel
theorem dX2_flipsOfStep_79 : decode cX2_flipsOfStep 79 = .ok (.ireturn, 1) := by decide +kernel
theorem dX2_makeStep_0 : decode cX2_makeStep 0 = .ok (.iconst 0, 1) := by decide +kernel
theorem dX2_makeStep_1 : decode cX2_makeStep 1 = .ok (.istore_n 1, 1) := by decide +kernel
theorem dX2_makeStep_2 : decode cX2_makeStep 2 = .ok (.aload_n 0, 1) := by decide +kernel
theorem dX2_makeStep_3 : decode cX2_makeStep 3 = .ok (.getfield 39, 3) := by decide +kernel
theorem dX2_makeStep_6 : decode cX2_makeStep 6 = .ok (.istore_n 2, 1) := by decide +kernel
theorem dX2_makeStep_7 : decode cX2_makeStep 7 = .ok (.aload_n 0, 1) := by decide +kernel
theorem dX2_makeStep_8 : decode cX2_makeStep 8 = .ok (.getfield 32, 3) := by decide +kernel
theorem dX2_makeStep_11 : decode cX2_makeStep 11 = .ok (.iconst 1, 1) := by decide +kernel
theorem dX2_makeStep_12 : decode cX2_makeStep 12 = .ok (.isub, 1) := by decide +kernel
theorem dX2_makeStep_13 : decode cX2_makeStep 13 = .ok (.istore_n 3, 1) := by decide +kernel
theorem dX2_makeStep_14 : decode cX2_makeStep 14 = .ok (.iload_n 3, 1) := by decide +kernel
theorem dX2_makeStep_15 : decode cX2_makeStep 15 = .ok (.ifCond .lt 53, 3) := by decide +kernel
theorem dX2_makeStep_18 : decode cX2_makeStep 18 = .ok (.iload_n 2, 1) := by decide +kernel
theorem dX2_makeStep_19 : decode cX2_makeStep 19 = .ok (.bipush 10, 2) := by decide +kernel
theorem dX2_makeStep_21 : decode cX2_makeStep 21 = .ok (.irem, 1) := by decide +kernel
theorem dX2_makeStep_22 : decode cX2_makeStep 22 = .ok (.istore 4, 2) := by decide +kernel
theorem dX2_makeStep_24 : decode cX2_makeStep 24 = .ok (.iload_n 1, 1) := by decide +kernel
theorem dX2_makeStep_25 : decode cX2_makeStep 25 = .ok (.aload_n 0, 1) := by decide +kernel
theorem dX2_makeStep_26 : decode cX2_makeStep 26 = .ok (.getfield 11, 3) := by decide +kernel
theorem dX2_makeStep_29 : decode cX2_makeStep 29 = .ok (.iload_n 3, 1) := by decide +kernel
theorem dX2_makeStep_30 : decode cX2_makeStep 30 = .ok (.aaload, 1) := by decide +kernel
theorem dX2_makeStep_31 : decode cX2_makeStep 31 = .ok (.iload 4, 2) := by decide +kernel
theorem dX2_makeStep_33 : decode cX2_makeStep 33 = .ok (.iload 4, 2) := by decide +kernel
theorem dX2_makeStep_35 : decode cX2_makeStep 35 = .ok (.invokestatic 60, 3) := by decide +kernel
theorem dX2_makeStep_38 : decode cX2_makeStep 38 = .ok (.aload_n 0, 1) := by decide +kernel
theorem dX2_makeStep_39 : decode cX2_makeStep 39 = .ok (.getfield 36, 3) := by decide +kernel
theorem dX2_makeStep_42 : decode cX2_makeStep 42 = .ok (.invokevirtual 63, 3) := by decide +kernel
theorem dX2_makeStep_45 : decode cX2_makeStep 45 = .ok (.iadd, 1) := by decide +kernel
theorem dX2_makeStep_46 : decode cX2_makeStep 46 = .ok (.istore_n 1, 1) := by decide +kernel
theorem dX2_makeStep_47 : decode cX2_makeStep 47 = .ok (.iload 4, 2) := by decide +kernel
theorem dX2_makeStep_49 : decode cX2_makeStep 49 = .ok (.bipush 9, 2) := by decide +kernel
theorem dX2_makeStep_51 : decode cX2_makeStep 51 = .ok (.if_icmp .eq 6, 3) := by decide +kernel
theorem dX2_makeStep_54 : decode cX2_makeStep 54 = .ok (.goto 14, 3) := by decide +kernel
theorem dX2_makeStep_57 : decode cX2_makeStep 57 = .ok (.iload_n 2, 1) := by decide +kernel
theorem dX2_makeStep_58 : decode cX2_makeStep 58 = .ok (.bipush 10, 2) := by decide +kernel
theorem dX2_makeStep_60 : decode cX2_makeStep 60 = .ok (.idiv, 1) := by decide +kernel
theorem dX2_makeStep_61 : decode cX2_makeStep 61 = .ok (.istore_n 2, 1) := by decide +kernel
theorem dX2_makeStep_62 : decode cX2_makeStep 62 = .ok (.iinc 3 (-1), 3) := by decide +kernel
theorem dX2_makeStep_65 : decode cX2_makeStep 65 = .ok (.goto (-51), 3) := by decide +kernel
theorem dX2_makeStep_68 : decode cX2_makeStep 68 = .ok (.aload_n 0, 1) := by decide +kernel
theorem dX2_makeStep_69 : decode cX2_makeStep 69 = .ok (.aload_n 0, 1) := by decide +kernel
theorem dX2_makeStep_70 : decode cX2_makeStep 70 = .ok (.aload_n 0, 1) := by decide +kernel
theorem dX2_makeStep_71 : decode cX2_makeStep 71 = .ok (.getfield 39, 3) := by decide +kernel
theorem dX2_makeStep_74 : decode cX2_makeStep 74 = .ok (.invokevirtual 67, 3) := by decide +kernel
theorem dX2_makeStep_77 : decode cX2_makeStep 77 = .ok (.putfield 39, 3) := by decide +kernel
theorem dX2_makeStep_80 : decode cX2_makeStep 80 = .ok (.iload_n 1, 1) := by decide +kernel
theorem dX2_makeStep_81 : decode cX2_makeStep 81 = .ok (.ireturn, 1) := by decide +kernel
theorem dX2_numberAfter_0 : decode cX2_numberAfter 0 = .ok (.iload_n 1, 1) := by decide +kernel
theorem dX2_numberAfter_1 : decode cX2_numberAfter 1 = .ok (.aload_n 0, 1) := by decide +kernel
theorem dX2_numberAfter_2 : decode cX2_numberAfter 2 = .ok (.getfield 42, 3) := by decide +kernel
theorem dX2_numberAfter_5 : decode cX2_numberAfter 5 = .ok (.if_icmp .lt 7, 3) := by decide +kernel
theorem dX2_numberAfter_8 : decode cX2_numberAfter 8 = .ok (.iconst 0, 1) := by decide +kernel
theorem dX2_numberAfter_9 : decode cX2_numberAfter 9 = .ok (.goto 6, 3) := by decide +kernel
theorem dX2_numberAfter_12 : decode cX2_numberAfter 12 = .ok (.iload_n 1, 1) := by decide +kernel
theorem dX2_numberAfter_13 : decode cX2_numberAfter 13 = .ok (.iconst 1, 1) := by decide +kernel
theorem dX2_numberAfter_14 : decode cX2_numberAfter 14 = .ok (.iadd, 1) := by decide +kernel
theorem dX2_numberAfter_15 : decode cX2_numberAfter 15 = .ok (.ireturn, 1) := by decide +kernel
theorem dX2_stepsToDeath_0 : decode cX2_stepsToDeath 0 = .ok (.aload_n 0, 1) := by decide +kernel
theorem dX2_stepsToDeath_1 : decode cX2_stepsToDeath 1 = .ok (.getfield 11, 3) := by decide +kernel
theorem dX2_stepsToDeath_4 : decode cX2_stepsToDeath 4 = .ok (.iload_n 1, 1) := by decide +kernel
theorem dX2_stepsToDeath_5 : decode cX2_stepsToDeath 5 = .ok (.aaload, 1) := by decide +kernel
theorem dX2_stepsToDeath_6 : decode cX2_stepsToDeath 6 = .ok (.astore 4, 2) := by decide +kernel
theorem dX2_stepsToDeath_8 : decode cX2_stepsToDeath 8 = .ok (.aload 4, 2) := by decide +kernel
theorem dX2_stepsToDeath_10 : decode cX2_stepsToDeath 10 = .ok (.getfield 45, 3) := by decide +kernel
theorem dX2_stepsToDeath_13 : decode cX2_stepsToDeath 13 = .ok (.aload 4, 2) := by decide +kernel
theorem dX2_stepsToDeath_15 : decode cX2_stepsToDeath 15 = .ok (.getfield 70, 3) := by decide +kernel
theorem dX2_stepsToDeath_18 : decode cX2_stepsToDeath 18 = .ok (.ior, 1) := by decide +kernel
theorem dX2_stepsToDeath_19 : decode cX2_stepsToDeath 19 = .ok (.iload_n 2, 1) := by decide +kernel
theorem dX2_stepsToDeath_20 : decode cX2_stepsToDeath 20 = .ok (.ishr, 1) := by decide +kernel
theorem dX2_stepsToDeath_21 : decode cX2_stepsToDeath 21 = .ok (.iconst 1, 1) := by decide +kernel
theorem dX2_stepsToDeath_22 : decode cX2_stepsToDeath 22 = .ok (.iand, 1) := by decide +kernel
theorem dX2_stepsToDeath_23 : decode cX2_stepsToDeath 23 = .ok (.ifCond .eq 6, 3) := by decide +kernel
theorem dX2_stepsToDeath_26 : decode cX2_stepsToDeath 26 = .ok (.bipush (-9), 2) := by decide +kernel
theorem dX2_stepsToDeath_28 : decode cX2_stepsToDeath 28 = .ok (.ireturn, 1) := by decide +kernel
theorem dX2_stepsToDeath_29 : decode cX2_stepsToDeath 29 = .ok (.aload 4, 2) := by decide +kernel
theorem dX2_stepsToDeath_31 : decode cX2_stepsToDeath 31 = .ok (.getfield 73, 3) := by decide +kernel
theorem dX2_stepsToDeath_34 : decode cX2_stepsToDeath 34 = .ok (.iload_n 2, 1) := by decide +kernel
theorem dX2_stepsToDeath_35 : decode cX2_stepsToDeath 35 = .ok (.iaload, 1) := by decide +kernel
theorem dX2_stepsToDeath_36 : decode cX2_stepsToDeath 36 = .ok (.istore 5, 2) := by decide +kernel
theorem dX2_stepsToDeath_38 : decode cX2_stepsToDeath 38 = .ok (.aload_n 0, 1) := by decide +kernel
theorem dX2_stepsToDeath_39 : decode cX2_stepsToDeath 39 = .ok (.getfield 39, 3) := by decide +kernel
theorem dX2_stepsToDeath_42 : decode cX2_stepsToDeath 42 = .ok (.istore 6, 2) := by decide +kernel
theorem dX2_stepsToDeath_44 : decode cX2_stepsToDeath 44 = .ok (.aload_n 0, 1) := by decide +kernel
theorem dX2_stepsToDeath_45 : decode cX2_stepsToDeath 45 = .ok (.iload 6, 2) := by decide +kernel
theorem dX2_stepsToDeath_47 : decode cX2_stepsToDeath 47 = .ok (.iload_n 1, 1) := by decide +kernel
theorem dX2_stepsToDeath_48 : decode cX2_stepsToDeath 48 = .ok (.invokevirtual 54, 3) := by decide +kernel
theorem dX2_stepsToDeath_51 : decode cX2_stepsToDeath 51 = .ok (.istore 7, 2) := by decide +kernel
theorem dX2_stepsToDeath_53 : decode cX2_stepsToDeath 53 = .ok (.iconst 1, 1) := by decide +kernel
theorem dX2_stepsToDeath_54 : decode cX2_stepsToDeath 54 = .ok (.istore 8, 2) := by decide +kernel
theorem dX2_stepsToDeath_56 : decode cX2_stepsToDeath 56 = .ok (.iload 8, 2) := by decide +kernel
theorem dX2_stepsToDeath_58 : decode cX2_stepsToDeath 58 = .ok (.iload_n 3, 1) := by decide +kernel
theorem dX2_stepsToDeath_59 : decode cX2_stepsToDeath 59 = .ok (.if_icmp .gt 73, 3) := by decide +kernel
theorem dX2_stepsToDeath_62 : decode cX2_stepsToDeath 62 = .ok (.aload_n 0, 1) := by decide +kernel
theorem dX2_stepsToDeath_63 : decode cX2_stepsToDeath 63 = .ok (.iload 6, 2) := by decide +kernel
theorem dX2_stepsToDeath_65 : decode cX2_stepsToDeath 65 = .ok (.invokevirtual 67, 3) := by decide +kernel
theorem dX2_stepsToDeath_68 : decode cX2_stepsToDeath 68 = .ok (.istore 6, 2) := by decide +kernel
theorem dX2_stepsToDeath_70 : decode cX2_stepsToDeath 70 = .ok (.aload_n 0, 1) := by decide +kernel
theorem dX2_stepsToDeath_71 : decode cX2_stepsToDeath 71 = .ok (.iload 6, 2) := by decide +kernel
theorem dX2_stepsToDeath_73 : decode cX2_stepsToDeath 73 = .ok (.iload_n 1, 1) := by decide +kernel
theorem dX2_stepsToDeath_74 : decode cX2_stepsToDeath 74 = .ok (.invokevirtual 54, 3) := by decide +kernel
theorem dX2_stepsToDeath_77 : decode cX2_stepsToDeath 77 = .ok (.istore 9, 2) := by decide +kernel
theorem dX2_stepsToDeath_79 : decode cX2_stepsToDeath 79 = .ok (.iload 9, 2) := by decide +kernel
theorem dX2_stepsToDeath_81 : decode cX2_stepsToDeath 81 = .ok (.iload 7, 2) := by decide +kernel
theorem dX2_stepsToDeath_83 : decode cX2_stepsToDeath 83 = .ok (.if_icmp .eq 31, 3) := by decide +kernel
theorem dX2_stepsToDeath_86 : decode cX2_stepsToDeath 86 = .ok (.iload 5, 2) := by decide +kernel
theorem dX2_stepsToDeath_88 : decode cX2_stepsToDeath 88 = .ok (.aload 4, 2) := by decide +kernel
theorem dX2_stepsToDeath_90 : decode cX2_stepsToDeath 90 = .ok (.iload 7, 2) := by decide +kernel
theorem dX2_stepsToDeath_92 : decode cX2_stepsToDeath 92 = .ok (.invokevirtual 57, 3) := by decide +kernel
theorem dX2_stepsToDeath_95 : decode cX2_stepsToDeath 95 = .ok (.aload 4, 2) := by decide +kernel
theorem dX2_stepsToDeath_97 : decode cX2_stepsToDeath 97 = .ok (.iload 9, 2) := by decide +kernel
theorem dX2_stepsToDeath_99 : decode cX2_stepsToDeath 99 = .ok (.invokevirtual 57, 3) := by decide +kernel
theorem dX2_stepsToDeath_102 : decode cX2_stepsToDeath 102 = .ok (.ixor, 1) := by decide +kernel
theorem dX2_stepsToDeath_103 : decode cX2_stepsToDeath 103 = .ok (.iload_n 2, 1) := by decide +kernel
theorem dX2_stepsToDeath_104 : decode cX2_stepsToDeath 104 = .ok (.ishr, 1) := by decide +kernel
theorem dX2_stepsToDeath_105 : decode cX2_stepsToDeath 105 = .ok (.iconst 1, 1) := by decide +kernel
theorem dX2_stepsToDeath_106 : decode cX2_stepsToDeath 106 = .ok (.iand, 1) := by decide +kernel
theorem dX2_stepsToDeath_107 : decode cX2_stepsToDeath 107 = .ok (.iadd, 1) := by decide +kernel
theorem dX2_stepsToDeath_108 : decode cX2_stepsToDeath 108 = .ok (.istore 5, 2) := by decide +kernel
theorem dX2_stepsToDeath_110 : decode cX2_stepsToDeath 110 = .ok (.iload 9, 2) := by decide +kernel
theorem dX2_stepsToDeath_112 : decode cX2_stepsToDeath 112 = .ok (.istore 7, 2) := by decide +kernel
theorem dX2_stepsToDeath_114 : decode cX2_stepsToDeath 114 = .ok (.iload 5, 2) := by decide +kernel
theorem dX2_stepsToDeath_116 : decode cX2_stepsToDeath 116 = .ok (.aload_n 0, 1) := by decide +kernel
theorem dX2_stepsToDeath_117 : decode cX2_stepsToDeath 117 = .ok (.getfield 36, 3) := by decide +kernel
theorem dX2_stepsToDeath_120 : decode cX2_stepsToDeath 120 = .ok (.if_icmp .lt 6, 3) := by decide +kernel
theorem dX2_stepsToDeath_123 : decode cX2_stepsToDeath 123 = .ok (.iload 8, 2) := by decide +kernel
theorem dX2_stepsToDeath_125 : decode cX2_stepsToDeath 125 = .ok (.ireturn, 1) := by decide +kernel
theorem dX2_stepsToDeath_126 : decode cX2_stepsToDeath 126 = .ok (.iinc 8 1, 3) := by decide +kernel
theorem dX2_stepsToDeath_129 : decode cX2_stepsToDeath 129 = .ok (.goto (-73), 3) := by decide +kernel
theorem dX2_stepsToDeath_132 : decode cX2_stepsToDeath 132 = .ok (.bipush (-9), 2) := by decide +kernel
theorem dX2_stepsToDeath_134 : decode cX2_stepsToDeath 134 = .ok (.ireturn, 1) := by decide +kernel
end
section
theorem dX2_countAlike_0 : decode cX2_countAlike 0 = .ok (.iconst 1, 1) := by decide +kernel
theorem dX2_countAlike_1 : decode cX2_countAlike 1 = .ok (.istore_n 2, 1) := by decide +kernel
theorem dX2_countAlike_2 : decode cX2_countAlike 2 = .ok (.iconst 0, 1) := by decide +kernel
theorem dX2_countAlike_3 : decode cX2_countAlike 3 = .ok (.istore_n 3, 1) := by decide +kernel
theorem dX2_countAlike_4 : decode cX2_countAlike 4 = .ok (.iload_n 3, 1) := by decide +kernel
theorem dX2_countAlike_5 : decode cX2_countAlike 5 = .ok (.aload_n 0, 1) := by decide +kernel
theorem dX2_countAlike_6 : decode cX2_countAlike 6 = .ok (.getfield 32, 3) := by decide +kernel
theorem dX2_countAlike_9 : decode cX2_countAlike 9 = .ok (.if_icmp .ge 26, 3) := by decide +kernel
theorem dX2_countAlike_12 : decode cX2_countAlike 12 = .ok (.iload_n 2, 1) := by decide +kernel
theorem dX2_countAlike_13 : decode cX2_countAlike 13 = .ok (.aload_n 0, 1) := by decide +kernel
theorem dX2_countAlike_14 : decode cX2_countAlike 14 = .ok (.iload_n 3, 1) := by decide +kernel
theorem dX2_countAlike_15 : decode cX2_countAlike 15 = .ok (.aload_n 0, 1) := by decide +kernel
theorem dX2_countAlike_16 : decode cX2_countAlike 16 = .ok (.iload_n 1, 1) := by decide +kernel
theorem dX2_countAlike_17 : decode cX2_countAlike 17 = .ok (.iload_n 3, 1) := by decide +kernel
theorem dX2_countAlike_18 : decode cX2_countAlike 18 = .ok (.invokevirtual 54, 3) := by decide +kernel
theorem dX2_countAlike_21 : decode cX2_countAlike 21 = .ok (.invokevirtual 77, 3) := by decide +kernel
theorem dX2_countAlike_24 : decode cX2_countAlike 24 = .ok (.invokestatic 48, 3) := by decide +kernel
theorem dX2_countAlike_27 : decode cX2_countAlike 27 = .ok (.imul, 1) := by decide +kernel
theorem dX2_countAlike_28 : decode cX2_countAlike 28 = .ok (.istore_n 2, 1) := by decide +kernel
theorem dX2_countAlike_29 : decode cX2_countAlike 29 = .ok (.iinc 3 1, 3) := by decide +kernel
theorem dX2_countAlike_32 : decode cX2_countAlike 32 = .ok (.goto (-28), 3) := by decide +kernel
theorem dX2_countAlike_35 : decode cX2_countAlike 35 = .ok (.iload_n 2, 1) := by decide +kernel
theorem dX2_countAlike_36 : decode cX2_countAlike 36 = .ok (.ireturn, 1) := by decide +kernel
theorem dX2_digitsAlike_0 : decode cX2_digitsAlike 0 = .ok (.aload_n 0, 1) := by decide +kernel
theorem dX2_digitsAlike_1 : decode cX2_digitsAlike 1 = .ok (.getfield 11, 3) := by decide +kernel
theorem dX2_digitsAlike_4 : decode cX2_digitsAlike 4 = .ok (.iload_n 1, 1) := by decide +kernel
theorem dX2_digitsAlike_5 : decode cX2_digitsAlike 5 = .ok (.aaload, 1) := by decide +kernel
theorem dX2_digitsAlike_6 : decode cX2_digitsAlike 6 = .ok (.aload_n 0, 1) := by decide +kernel
theorem dX2_digitsAlike_7 : decode cX2_digitsAlike 7 = .ok (.getfield 11, 3) := by decide +kernel
theorem dX2_digitsAlike_10 : decode cX2_digitsAlike 10 = .ok (.iload_n 1, 1) := by decide +kernel
theorem dX2_digitsAlike_11 : decode cX2_digitsAlike 11 = .ok (.aaload, 1) := by decide +kernel
theorem dX2_digitsAlike_12 : decode cX2_digitsAlike 12 = .ok (.iload_n 2, 1) := by decide +kernel
theorem dX2_digitsAlike_13 : decode cX2_digitsAlike 13 = .ok (.invokevirtual 57, 3) := by decide +kernel
theorem dX2_digitsAlike_16 : decode cX2_digitsAlike 16 = .ok (.invokevirtual 80, 3) := by decide +kernel
theorem dX2_digitsAlike_19 : decode cX2_digitsAlike 19 = .ok (.ireturn, 1) := by decide +kernel
theorem dX2_numberAlike_0 : decode cX2_numberAlike 0 = .ok (.iconst 0, 1) := by decide +kernel
theorem dX2_numberAlike_1 : decode cX2_numberAlike 1 = .ok (.istore_n 3, 1) := by decide +kernel
theorem dX2_numberAlike_2 : decode cX2_numberAlike 2 = .ok (.iconst 1, 1) := by decide +kernel
theorem dX2_numberAlike_3 : decode cX2_numberAlike 3 = .ok (.istore 4, 2) := by decide +kernel
theorem dX2_numberAlike_5 : decode cX2_numberAlike 5 = .ok (.iload_n 2, 1) := by decide +kernel
theorem dX2_numberAlike_6 : decode cX2_numberAlike 6 = .ok (.istore 5, 2) := by decide +kernel
theorem dX2_numberAlike_8 : decode cX2_numberAlike 8 = .ok (.aload_n 0, 1) := by decide +kernel
theorem dX2_numberAlike_9 : decode cX2_numberAlike 9 = .ok (.getfield 32, 3) := by decide +kernel
theorem dX2_numberAlike_12 : decode cX2_numberAlike 12 = .ok (.iconst 1, 1) := by decide +kernel
theorem dX2_numberAlike_13 : decode cX2_numberAlike 13 = .ok (.isub, 1) := by decide +kernel
theorem dX2_numberAlike_14 : decode cX2_numberAlike 14 = .ok (.istore 6, 2) := by decide +kernel
theorem dX2_numberAlike_16 : decode cX2_numberAlike 16 = .ok (.iload 6, 2) := by decide +kernel
theorem dX2_numberAlike_18 : decode cX2_numberAlike 18 = .ok (.ifCond .lt 70, 3) := by decide +kernel
theorem dX2_numberAlike_21 : decode cX2_numberAlike 21 = .ok (.aload_n 0, 1) := by decide +kernel
theorem dX2_numberAlike_22 : decode cX2_numberAlike 22 = .ok (.iload 6, 2) := by decide +kernel
theorem dX2_numberAlike_24 : decode cX2_numberAlike 24 = .ok (.aload_n 0, 1) := by decide +kernel
theorem dX2_numberAlike_25 : decode cX2_numberAlike 25 = .ok (.iload_n 1, 1) := by decide +kernel
theorem dX2_numberAlike_26 : decode cX2_numberAlike 26 = .ok (.iload 6, 2) := by decide +kernel
theorem dX2_numberAlike_28 : decode cX2_numberAlike 28 = .ok (.invokevirtual 54, 3) := by decide +kernel
theorem dX2_numberAlike_31 : decode cX2_numberAlike 31 = .ok (.invokevirtual 77, 3) := by decide +kernel
theorem dX2_numberAlike_34 : decode cX2_numberAlike 34 = .ok (.istore 7, 2) := by decide +kernel
theorem dX2_numberAlike_36 : decode cX2_numberAlike 36 = .ok (.iload 7, 2) := by decide +kernel
theorem dX2_numberAlike_38 : decode cX2_numberAlike 38 = .ok (.invokestatic 48, 3) := by decide +kernel
theorem dX2_numberAlike_41 : decode cX2_numberAlike 41 = .ok (.istore 8, 2) := by decide +kernel
theorem dX2_numberAlike_43 : decode cX2_numberAlike 43 = .ok (.iload 8, 2) := by decide +kernel
theorem dX2_numberAlike_45 : decode cX2_numberAlike 45 = .ok (.iconst 1, 1) := by decide +kernel
theorem dX2_numberAlike_46 : decode cX2_numberAlike 46 = .ok (.if_icmp .ge 6, 3) := by decide +kernel
theorem dX2_numberAlike_49 : decode cX2_numberAlike 49 = .ok (.bipush (-9), 2) := by decide +kernel
theorem dX2_numberAlike_51 : decode cX2_numberAlike 51 = .ok (.ireturn, 1) := by decide +kernel
theorem dX2_numberAlike_52 : decode cX2_numberAlike 52 = .ok (.iload_n 3, 1) := by decide +kernel
theorem dX2_numberAlike_53 : decode cX2_numberAlike 53 = .ok (.iload 4, 2) := by decide +kernel
theorem dX2_numberAlike_55 : decode cX2_numberAlike 55 = .ok (.iload 7, 2) := by decide +kernel
theorem dX2_numberAlike_57 : decode cX2_numberAlike 57 = .ok (.iload 5, 2) := by decide +kernel
theorem dX2_numberAlike_59 : decode cX2_numberAlike 59 = .ok (.iload 8, 2) := by decide +kernel
theorem dX2_numberAlike_61 : decode cX2_numberAlike 61 = .ok (.irem, 1) := by decide +kernel
theorem dX2_numberAlike_62 : decode cX2_numberAlike 62 = .ok (.invokestatic 83, 3) := by decide +kernel
theorem dX2_numberAlike_65 : decode cX2_numberAlike 65 = .ok (.imul, 1) := by decide +kernel
theorem dX2_numberAlike_66 : decode cX2_numberAlike 66 = .ok (.iadd, 1) := by decide +kernel
theorem dX2_numberAlike_67 : decode cX2_numberAlike 67 = .ok (.istore_n 3, 1) := by decide +kernel
theorem dX2_numberAlike_68 : decode cX2_numberAlike 68 = .ok (.iload 5, 2) := by decide +kernel
theorem dX2_numberAlike_70 : decode cX2_numberAlike 70 = .ok (.iload 8, 2) := by decide +kernel
theorem dX2_numberAlike_72 : decode cX2_numberAlike 72 = .ok (.idiv, 1) := by decide +kernel
theorem dX2_numberAlike_73 : decode cX2_numberAlike 73 = .ok (.istore 5, 2) := by decide +kernel
theorem dX2_numberAlike_75 : decode cX2_numberAlike 75 = .ok (.iload 4, 2) := by decide +kernel
theorem dX2_numberAlike_77 : decode cX2_numberAlike 77 = .ok (.bipush 10, 2) := by decide +kernel
theorem dX2_numberAlike_79 : decode cX2_numberAlike 79 = .ok (.imul, 1) := by decide +kernel
theorem dX2_numberAlike_80 : decode cX2_numberAlike 80 = .ok (.istore 4, 2) := by decide +kernel
theorem dX2_numberAlike_82 : decode cX2_numberAlike 82 = .ok (.iinc 6 (-1), 3) := by decide +kernel
theorem dX2_numberAlike_85 : decode cX2_numberAlike 85 = .ok (.goto (-69), 3) := by decide +kernel
theorem dX2_numberAlike_88 : decode cX2_numberAlike 88 = .ok (.iload 5, 2) := by decide +kernel
theorem dX2_numberAlike_90 : decode cX2_numberAlike 90 = .ok (.ifCond .ne 7, 3) := by decide +kernel
theorem dX2_numberAlike_93 : decode cX2_numberAlike 93 = .ok (.iload_n 3, 1) := by decide +kernel
theorem dX2_numberAlike_94 : decode cX2_numberAlike 94 = .ok (.goto 5, 3) := by decide +kernel
theorem dX2_numberAlike_97 : decode cX2_numberAlike 97 = .ok (.bipush (-9), 2) := by decide +kernel
theorem dX2_numberAlike_99 : decode cX2_numberAlike 99 = .ok (.ireturn, 1) := by decide +kernel
theorem dX2_memberOf_0 : decode cX2_memberOf 0 = .ok (.iload_n 1, 1) := by decide +kernel
theorem dX2_memberOf_1 : decode cX2_memberOf 1 = .ok (.istore_n 2, 1) := by decide +kernel
theorem dX2_memberOf_2 : decode cX2_memberOf 2 = .ok (.iconst 0, 1) := by decide +kernel
theorem dX2_memberOf_3 : decode cX2_memberOf 3 = .ok (.istore_n 3, 1) := by decide +kernel
theorem dX2_memberOf_4 : decode cX2_memberOf 4 = .ok (.iload_n 3, 1) := by decide +kernel
theorem dX2_memberOf_5 : decode cX2_memberOf 5 = .ok (.bipush 10, 2) := by decide +kernel
theorem dX2_memberOf_7 : decode cX2_memberOf 7 = .ok (.if_icmp .ge 26, 3) := by decide +kernel
theorem dX2_memberOf_10 : decode cX2_memberOf 10 = .ok (.iload_n 0, 1) := by decide +kernel
theorem dX2_memberOf_11 : decode cX2_memberOf 11 = .ok (.iload_n 3, 1) := by decide +kernel
theorem dX2_memberOf_12 : decode cX2_memberOf 12 = .ok (.ishr, 1) := by decide +kernel
theorem dX2_memberOf_13 : decode cX2_memberOf 13 = .ok (.iconst 1, 1) := by decide +kernel
theorem dX2_memberOf_14 : decode cX2_memberOf 14 = .ok (.iand, 1) := by decide +kernel
theorem dX2_memberOf_15 : decode cX2_memberOf 15 = .ok (.ifCond .eq 12, 3) := by decide +kernel
theorem dX2_memberOf_18 : decode cX2_memberOf 18 = .ok (.iload_n 2, 1) := by decide +kernel
theorem dX2_memberOf_19 : decode cX2_memberOf 19 = .ok (.ifCond .ne 5, 3) := by decide +kernel
theorem dX2_memberOf_22 : decode cX2_memberOf 22 = .ok (.iload_n 3, 1) := by decide +kernel
theorem dX2_memberOf_23 : decode cX2_memberOf 23 = .ok (.ireturn, 1) := by decide +kernel
theorem dX2_memberOf_24 : decode cX2_memberOf 24 = .ok (.iinc 2 (-1), 3) := by decide +kernel
theorem dX2_memberOf_27 : decode cX2_memberOf 27 = .ok (.iinc 3 1, 3) := by decide +kernel
theorem dX2_memberOf_30 : decode cX2_memberOf 30 = .ok (.goto (-26), 3) := by decide +kernel
theorem dX2_memberOf_33 : decode cX2_memberOf 33 = .ok (.iconst 0, 1) := by decide +kernel
theorem dX2_memberOf_34 : decode cX2_memberOf 34 = .ok (.ireturn, 1) := by decide +kernel
theorem dX2_nearestTo_0 : decode cX2_nearestTo 0 = .ok (.aload_n 0, 1) := by decide +kernel
theorem dX2_nearestTo_1 : decode cX2_nearestTo 1 = .ok (.iload_n 1, 1) := by decide +kernel
theorem dX2_nearestTo_2 : decode cX2_nearestTo 2 = .ok (.invokevirtual 86, 3) := by decide +kernel
theorem dX2_nearestTo_5 : decode cX2_nearestTo 5 = .ok (.iconst 1, 1) := by decide +kernel
theorem dX2_nearestTo_6 : decode cX2_nearestTo 6 = .ok (.if_icmp .ne 9, 3) := by decide +kernel
theorem dX2_nearestTo_9 : decode cX2_nearestTo 9 = .ok (.aload_n 0, 1) := by decide +kernel
theorem dX2_nearestTo_10 : decode cX2_nearestTo 10 = .ok (.iload_n 1, 1) := by decide +kernel
theorem dX2_nearestTo_11 : decode cX2_nearestTo 11 = .ok (.invokevirtual 89, 3) := by decide +kernel
theorem dX2_nearestTo_14 : decode cX2_nearestTo 14 = .ok (.ireturn, 1) := by decide +kernel
theorem dX2_nearestTo_15 : decode cX2_nearestTo 15 = .ok (.aload_n 0, 1) := by decide +kernel
theorem dX2_nearestTo_16 : decode cX2_nearestTo 16 = .ok (.iload_n 1, 1) := by decide +kernel
theorem dX2_nearestTo_17 : decode cX2_nearestTo 17 = .ok (.iconst 0, 1) := by decide +kernel
theorem dX2_nearestTo_18 : decode cX2_nearestTo 18 = .ok (.invokevirtual 92, 3) := by decide +kernel
theorem dX2_nearestTo_21 : decode cX2_nearestTo 21 = .ok (.istore_n 2, 1) := by decide +kernel
theorem dX2_nearestTo_22 : decode cX2_nearestTo 22 = .ok (.iload_n 2, 1) := by decide +kernel
theorem dX2_nearestTo_23 : decode cX2_nearestTo 23 = .ok (.iload_n 1, 1) := by decide +kernel
theorem dX2_nearestTo_24 : decode cX2_nearestTo 24 = .ok (.if_icmp .eq 7, 3) := by decide +kernel
theorem dX2_nearestTo_27 : decode cX2_nearestTo 27 = .ok (.iload_n 2, 1) := by decide +kernel
theorem dX2_nearestTo_28 : decode cX2_nearestTo 28 = .ok (.goto 9, 3) := by decide +kernel
theorem dX2_nearestTo_31 : decode cX2_nearestTo 31 = .ok (.aload_n 0, 1) := by decide +kernel
theorem dX2_nearestTo_32 : decode cX2_nearestTo 32 = .ok (.iload_n 1, 1) := by decide +kernel
theorem dX2_nearestTo_33 : decode cX2_nearestTo 33 = .ok (.iconst 1, 1) := by decide +kernel
theorem dX2_nearestTo_34 : decode cX2_nearestTo 34 = .ok (.invokevirtual 92, 3) := by decide +kernel
theorem dX2_nearestTo_37 : decode cX2_nearestTo 37 = .ok (.ireturn, 1) := by decide +kernel
theorem dX2_nearestUnlike_0 : decode cX2_nearestUnlike 0 = .ok (.bipush (-9), 2) := by decide +kernel
theorem dX2_nearestUnlike_2 : decode cX2_nearestUnlike 2 = .ok (.istore_n 2, 1) := by decide +kernel
theorem dX2_nearestUnlike_3 : decode cX2_nearestUnlike 3 = .ok (.bipush 29, 2) := by decide +kernel
theorem dX2_nearestUnlike_5 : decode cX2_nearestUnlike 5 = .ok (.istore_n 3, 1) := by decide +kernel
theorem dX2_nearestUnlike_6 : decode cX2_nearestUnlike 6 = .ok (.iconst 1, 1) := by decide +kernel
theorem dX2_nearestUnlike_7 : decode cX2_nearestUnlike 7 = .ok (.istore 4, 2) := by decide +kernel
theorem dX2_nearestUnlike_9 : decode cX2_nearestUnlike 9 = .ok (.aload_n 0, 1) := by decide +kernel
theorem dX2_nearestUnlike_10 : decode cX2_nearestUnlike 10 = .ok (.getfield 32, 3) := by decide +kernel
theorem dX2_nearestUnlike_13 : decode cX2_nearestUnlike 13 = .ok (.iconst 1, 1) := by decide +kernel
theorem dX2_nearestUnlike_14 : decode cX2_nearestUnlike 14 = .ok (.isub, 1) := by decide +kernel
theorem dX2_nearestUnlike_15 : decode cX2_nearestUnlike 15 = .ok (.istore 5, 2) := by decide +kernel
theorem dX2_nearestUnlike_17 : decode cX2_nearestUnlike 17 = .ok (.iload 5, 2) := by decide +kernel
theorem dX2_nearestUnlike_19 : decode cX2_nearestUnlike 19 = .ok (.ifCond .lt 114, 3) := by decide +kernel
theorem dX2_nearestUnlike_22 : decode cX2_nearestUnlike 22 = .ok (.aload_n 0, 1) := by decide +kernel
theorem dX2_nearestUnlike_23 : decode cX2_nearestUnlike 23 = .ok (.iload_n 1, 1) := by decide +kernel
theorem dX2_nearestUnlike_24 : decode cX2_nearestUnlike 24 = .ok (.iload 5, 2) := by decide +kernel
theorem dX2_nearestUnlike_26 : decode cX2_nearestUnlike 26 = .ok (.invokevirtual 54, 3) := by decide +kernel
theorem dX2_nearestUnlike_29 : decode cX2_nearestUnlike 29 = .ok (.istore 6, 2) := by decide +kernel
theorem dX2_nearestUnlike_31 : decode cX2_nearestUnlike 31 = .ok (.iconst 0, 1) := by decide +kernel
theorem dX2_nearestUnlike_32 : decode cX2_nearestUnlike 32 = .ok (.istore 7, 2) := by decide +kernel
theorem dX2_nearestUnlike_34 : decode cX2_nearestUnlike 34 = .ok (.iload 7, 2) := by decide +kernel
theorem dX2_nearestUnlike_36 : decode cX2_nearestUnlike 36 = .ok (.bipush 10, 2) := by decide +kernel
theorem dX2_nearestUnlike_38 : decode cX2_nearestUnlike 38 = .ok (.if_icmp .ge 82, 3) := by decide +kernel
theorem dX2_nearestUnlike_41 : decode cX2_nearestUnlike 41 = .ok (.iload_n 1, 1) := by decide +kernel
theorem dX2_nearestUnlike_42 : decode cX2_nearestUnlike 42 = .ok (.iload 4, 2) := by decide +kernel
theorem dX2_nearestUnlike_44 : decode cX2_nearestUnlike 44 = .ok (.iload 7, 2) := by decide +kernel
theorem dX2_nearestUnlike_46 : decode cX2_nearestUnlike 46 = .ok (.iload 6, 2) := by decide +kernel
theorem dX2_nearestUnlike_48 : decode cX2_nearestUnlike 48 = .ok (.isub, 1) := by decide +kernel
theorem dX2_nearestUnlike_49 : decode cX2_nearestUnlike 49 = .ok (.imul, 1) := by decide +kernel
theorem dX2_nearestUnlike_50 : decode cX2_nearestUnlike 50 = .ok (.iadd, 1) := by decide +kernel
theorem dX2_nearestUnlike_51 : decode cX2_nearestUnlike 51 = .ok (.istore 8, 2) := by decide +kernel
theorem dX2_nearestUnlike_53 : decode cX2_nearestUnlike 53 = .ok (.aload_n 0, 1) := by decide +kernel
theorem dX2_nearestUnlike_54 : decode cX2_nearestUnlike 54 = .ok (.getfield 11, 3) := by decide +kernel
theorem dX2_nearestUnlike_57 : decode cX2_nearestUnlike 57 = .ok (.iload 5, 2) := by decide +kernel
theorem dX2_nearestUnlike_59 : decode cX2_nearestUnlike 59 = .ok (.aaload, 1) := by decide +kernel
theorem dX2_nearestUnlike_60 : decode cX2_nearestUnlike 60 = .ok (.iload 6, 2) := by decide +kernel
theorem dX2_nearestUnlike_62 : decode cX2_nearestUnlike 62 = .ok (.invokevirtual 57, 3) := by decide +kernel
theorem dX2_nearestUnlike_65 : decode cX2_nearestUnlike 65 = .ok (.aload_n 0, 1) := by decide +kernel
theorem dX2_nearestUnlike_66 : decode cX2_nearestUnlike 66 = .ok (.getfield 11, 3) := by decide +kernel
theorem dX2_nearestUnlike_69 : decode cX2_nearestUnlike 69 = .ok (.iload 5, 2) := by decide +kernel
theorem dX2_nearestUnlike_71 : decode cX2_nearestUnlike 71 = .ok (.aaload, 1) := by decide +kernel
theorem dX2_nearestUnlike_72 : decode cX2_nearestUnlike 72 = .ok (.iload 7, 2) := by decide +kernel
theorem dX2_nearestUnlike_74 : decode cX2_nearestUnlike 74 = .ok (.invokevirtual 57, 3) := by decide +kernel
theorem dX2_nearestUnlike_77 : decode cX2_nearestUnlike 77 = .ok (.ixor, 1) := by decide +kernel
theorem dX2_nearestUnlike_78 : decode cX2_nearestUnlike 78 = .ok (.invokestatic 48, 3) := by decide +kernel
theorem dX2_nearestUnlike_81 : decode cX2_nearestUnlike 81 = .ok (.istore 9, 2) := by decide +kernel
theorem dX2_nearestUnlike_83 : decode cX2_nearestUnlike 83 = .ok (.iload 7, 2) := by decide +kernel
theorem dX2_nearestUnlike_85 : decode cX2_nearestUnlike 85 = .ok (.iload 6, 2) := by decide +kernel
theorem dX2_nearestUnlike_87 : decode cX2_nearestUnlike 87 = .ok (.if_icmp .eq 27, 3) := by decide +kernel
theorem dX2_nearestUnlike_90 : decode cX2_nearestUnlike 90 = .ok (.iload 9, 2) := by decide +kernel
theorem dX2_nearestUnlike_92 : decode cX2_nearestUnlike 92 = .ok (.iload_n 3, 1) := by decide +kernel
theorem dX2_nearestUnlike_93 : decode cX2_nearestUnlike 93 = .ok (.if_icmp .lt 15, 3) := by decide +kernel
theorem dX2_nearestUnlike_96 : decode cX2_nearestUnlike 96 = .ok (.iload 9, 2) := by decide +kernel
theorem dX2_nearestUnlike_98 : decode cX2_nearestUnlike 98 = .ok (.iload_n 3, 1) := by decide +kernel
theorem dX2_nearestUnlike_99 : decode cX2_nearestUnlike 99 = .ok (.if_icmp .ne 15, 3) := by decide +kernel
theorem dX2_nearestUnlike_102 : decode cX2_nearestUnlike 102 = .ok (.iload 8, 2) := by decide +kernel
theorem dX2_nearestUnlike_104 : decode cX2_nearestUnlike 104 = .ok (.iload_n 2, 1) := by decide +kernel
theorem dX2_nearestUnlike_105 : decode cX2_nearestUnlike 105 = .ok (.if_icmp .ge 9, 3) := by decide +kernel
theorem dX2_nearestUnlike_108 : decode cX2_nearestUnlike 108 = .ok (.iload 8, 2) := by decide +kernel
theorem dX2_nearestUnlike_110 : decode cX2_nearestUnlike 110 = .ok (.istore_n 2, 1) := by decide +kernel
theorem dX2_nearestUnlike_111 : decode cX2_nearestUnlike 111 = .ok (.iload 9, 2) := by decide +kernel
theorem dX2_nearestUnlike_113 : decode cX2_nearestUnlike 113 = .ok (.istore_n 3, 1) := by decide +kernel
theorem dX2_nearestUnlike_114 : decode cX2_nearestUnlike 114 = .ok (.iinc 7 1, 3) := by decide +kernel
theorem dX2_nearestUnlike_117 : decode cX2_nearestUnlike 117 = .ok (.goto (-83), 3) := by decide +kernel
theorem dX2_nearestUnlike_120 : decode cX2_nearestUnlike 120 = .ok (.iload 4, 2) := by decide +kernel
theorem dX2_nearestUnlike_122 : decode cX2_nearestUnlike 122 = .ok (.bipush 10, 2) := by decide +kernel
theorem dX2_nearestUnlike_124 : decode cX2_nearestUnlike 124 = .ok (.imul, 1) := by decide +kernel
theorem dX2_nearestUnlike_125 : decode cX2_nearestUnlike 125 = .ok (.istore 4, 2) := by decide +kernel
theorem dX2_nearestUnlike_127 : decode cX2_nearestUnlike 127 = .ok (.iinc 5 (-1), 3) := by decide +kernel
theorem dX2_nearestUnlike_130 : decode cX2_nearestUnlike 130 = .ok (.goto (-113), 3) := by decide +kernel
theorem dX2_nearestUnlike_133 : decode cX2_nearestUnlike 133 = .ok (.iload_n 2, 1) := by decide +kernel
theorem dX2_nearestUnlike_134 : decode cX2_nearestUnlike 134 = .ok (.ireturn, 1) := by decide +kernel
theorem dX2_unlikePictures_0 : decode cX2_unlikePictures 0 = .ok (.iconst 1, 1) := by decide +kernel
theorem dX2_unlikePictures_1 : decode cX2_unlikePictures 1 = .ok (.istore_n 1, 1) := by decide +kernel
theorem dX2_unlikePictures_2 : decode cX2_unlikePictures 2 = .ok (.iconst 0, 1) := by decide +kernel
theorem dX2_unlikePictures_3 : decode cX2_unlikePictures 3 = .ok (.istore_n 2, 1) := by decide +kernel
theorem dX2_unlikePictures_4 : decode cX2_unlikePictures 4 = .ok (.iload_n 2, 1) := by decide +kernel
theorem dX2_unlikePictures_5 : decode cX2_unlikePictures 5 = .ok (.aload_n 0, 1) := by decide +kernel
theorem dX2_unlikePictures_6 : decode cX2_unlikePictures 6 = .ok (.getfield 32, 3) := by decide +kernel
theorem dX2_unlikePictures_9 : decode cX2_unlikePictures 9 = .ok (.if_icmp .ge 21, 3) := by decide +kernel
theorem dX2_unlikePictures_12 : decode cX2_unlikePictures 12 = .ok (.iload_n 1, 1) := by decide +kernel
theorem dX2_unlikePictures_13 : decode cX2_unlikePictures 13 = .ok (.aload_n 0, 1) := by decide +kernel
theorem dX2_unlikePictures_14 : decode cX2_unlikePictures 14 = .ok (.getfield 11, 3) := by decide +kernel
theorem dX2_unlikePictures_17 : decode cX2_unlikePictures 17 = .ok (.iload_n 2, 1) := by decide +kernel
theorem dX2_unlikePictures_18 : decode cX2_unlikePictures 18 = .ok (.aaload, 1) := by decide +kernel
theorem dX2_unlikePictures_19 : decode cX2_unlikePictures 19 = .ok (.invokevirtual 95, 3) := by decide +kernel
theorem dX2_unlikePictures_22 : decode cX2_unlikePictures 22 = .ok (.imul, 1) := by decide +kernel
theorem dX2_unlikePictures_23 : decode cX2_unlikePictures 23 = .ok (.istore_n 1, 1) := by decide +kernel
theorem dX2_unlikePictures_24 : decode cX2_unlikePictures 24 = .ok (.iinc 2 1, 3) := by decide +kernel
theorem dX2_unlikePictures_27 : decode cX2_unlikePictures 27 = .ok (.goto (-23), 3) := by decide +kernel
theorem dX2_unlikePictures_30 : decode cX2_unlikePictures 30 = .ok (.iload_n 1, 1) := by decide +kernel
theorem dX2_unlikePictures_31 : decode cX2_unlikePictures 31 = .ok (.ireturn, 1) := by decide +kernel
theorem dX2_lonePictures_0 : decode cX2_lonePictures 0 = .ok (.iconst 1, 1) := by decide +kernel
theorem dX2_lonePictures_1 : decode cX2_lonePictures 1 = .ok (.istore_n 1, 1) := by decide +kernel
theorem dX2_lonePictures_2 : decode cX2_lonePictures 2 = .ok (.iconst 0, 1) := by decide +kernel
theorem dX2_lonePictures_3 : decode cX2_lonePictures 3 = .ok (.istore_n 2, 1) := by decide +kernel
theorem dX2_lonePictures_4 : decode cX2_lonePictures 4 = .ok (.iload_n 2, 1) := by decide +kernel
theorem dX2_lonePictures_5 : decode cX2_lonePictures 5 = .ok (.aload_n 0, 1) := by decide +kernel
theorem dX2_lonePictures_6 : decode cX2_lonePictures 6 = .ok (.getfield 32, 3) := by decide +kernel
theorem dX2_lonePictures_9 : decode cX2_lonePictures 9 = .ok (.if_icmp .ge 21, 3) := by decide +kernel
theorem dX2_lonePictures_12 : decode cX2_lonePictures 12 = .ok (.iload_n 1, 1) := by decide +kernel
theorem dX2_lonePictures_13 : decode cX2_lonePictures 13 = .ok (.aload_n 0, 1) := by decide +kernel
theorem dX2_lonePictures_14 : decode cX2_lonePictures 14 = .ok (.getfield 11, 3) := by decide +kernel
theorem dX2_lonePictures_17 : decode cX2_lonePictures 17 = .ok (.iload_n 2, 1) := by decide +kernel
theorem dX2_lonePictures_18 : decode cX2_lonePictures 18 = .ok (.aaload, 1) := by decide +kernel
theorem dX2_lonePictures_19 : decode cX2_lonePictures 19 = .ok (.invokevirtual 99, 3) := by decide +kernel
theorem dX2_lonePictures_22 : decode cX2_lonePictures 22 = .ok (.imul, 1) := by decide +kernel
theorem dX2_lonePictures_23 : decode cX2_lonePictures 23 = .ok (.istore_n 1, 1) := by decide +kernel
theorem dX2_lonePictures_24 : decode cX2_lonePictures 24 = .ok (.iinc 2 1, 3) := by decide +kernel
theorem dX2_lonePictures_27 : decode cX2_lonePictures 27 = .ok (.goto (-23), 3) := by decide +kernel
theorem dX2_lonePictures_30 : decode cX2_lonePictures 30 = .ok (.iload_n 1, 1) := by decide +kernel
theorem dX2_lonePictures_31 : decode cX2_lonePictures 31 = .ok (.ireturn, 1) := by decide +kernel
theorem dX3_init_0 : decode cX3_init 0 = .ok (.aload_n 0, 1) := by decide +kernel
theorem dX3_init_1 : decode cX3_init 1 = .ok (.invokespecial 3, 3) := by decide +kernel
theorem dX3_init_4 : decode cX3_init 4 = .ok (.aload_n 0, 1) := by decide +kernel
theorem dX3_init_5 : decode cX3_init 5 = .ok (.bipush 10, 2) := by decide +kernel
theorem dX3_init_7 : decode cX3_init 7 = .ok (.newarray .int, 2) := by decide +kernel
theorem dX3_init_9 : decode cX3_init 9 = .ok (.putfield 9, 3) := by decide +kernel
theorem dX3_init_12 : decode cX3_init 12 = .ok (.aload_n 0, 1) := by decide +kernel
theorem dX3_init_13 : decode cX3_init 13 = .ok (.bipush 7, 2) := by decide +kernel
theorem dX3_init_15 : decode cX3_init 15 = .ok (.newarray .int, 2) := by decide +kernel
theorem dX3_init_17 : decode cX3_init 17 = .ok (.putfield 15, 3) := by decide +kernel
theorem dX3_init_20 : decode cX3_init 20 = .ok (.aload_n 0, 1) := by decide +kernel
theorem dX3_init_21 : decode cX3_init 21 = .ok (.aload_n 1, 1) := by decide +kernel
theorem dX3_init_22 : decode cX3_init 22 = .ok (.putfield 18, 3) := by decide +kernel
theorem dX3_init_25 : decode cX3_init 25 = .ok (.return_, 1) := by decide +kernel
theorem dX3_renew_0 : decode cX3_renew 0 = .ok (.aload_n 0, 1) := by decide +kernel
theorem dX3_renew_1 : decode cX3_renew 1 = .ok (.iload_n 1, 1) := by decide +kernel
theorem dX3_renew_2 : decode cX3_renew 2 = .ok (.putfield 22, 3) := by decide +kernel
theorem dX3_renew_5 : decode cX3_renew 5 = .ok (.aload_n 0, 1) := by decide +kernel
theorem dX3_renew_6 : decode cX3_renew 6 = .ok (.iload_n 2, 1) := by decide +kernel
theorem dX3_renew_7 : decode cX3_renew 7 = .ok (.putfield 26, 3) := by decide +kernel
theorem dX3_renew_10 : decode cX3_renew 10 = .ok (.aload_n 0, 1) := by decide +kernel
theorem dX3_renew_11 : decode cX3_renew 11 = .ok (.iload_n 3, 1) := by decide +kernel
theorem dX3_renew_12 : decode cX3_renew 12 = .ok (.putfield 29, 3) := by decide +kernel
theorem dX3_renew_15 : decode cX3_renew 15 = .ok (.iconst 0, 1) := by decide +kernel
theorem dX3_renew_16 : decode cX3_renew 16 = .ok (.istore 4, 2) := by decide +kernel
theorem dX3_renew_18 : decode cX3_renew 18 = .ok (.iload 4, 2) := by decide +kernel
theorem dX3_renew_20 : decode cX3_renew 20 = .ok (.bipush 7, 2) := by decide +kernel
theorem dX3_renew_22 : decode cX3_renew 22 = .ok (.if_icmp .ge 17, 3) := by decide +kernel
theorem dX3_renew_25 : decode cX3_renew 25 = .ok (.aload_n 0, 1) := by decide +kernel
theorem dX3_renew_26 : decode cX3_renew 26 = .ok (.getfield 15, 3) := by decide +kernel
theorem dX3_renew_29 : decode cX3_renew 29 = .ok (.iload 4, 2) := by decide +kernel
theorem dX3_renew_31 : decode cX3_renew 31 = .ok (.iconst 0, 1) := by decide +kernel
theorem dX3_renew_32 : decode cX3_renew 32 = .ok (.iastore, 1) := by decide +kernel
theorem dX3_renew_33 : decode cX3_renew 33 = .ok (.iinc 4 1, 3) := by decide +kernel
theorem dX3_renew_36 : decode cX3_renew 36 = .ok (.goto (-18), 3) := by decide +kernel
theorem dX3_renew_39 : decode cX3_renew 39 = .ok (.aload_n 0, 1) := by decide +kernel
theorem dX3_renew_40 : decode cX3_renew 40 = .ok (.invokevirtual 32, 3) := by decide +kernel
theorem dX3_renew_43 : decode cX3_renew 43 = .ok (.return_, 1) := by decide +kernel
theorem dX3_light_0 : decode cX3_light 0 = .ok (.iconst 0, 1) := by decide +kernel
theorem dX3_light_1 : decode cX3_light 1 = .ok (.istore_n 1, 1) := by decide +kernel
theorem dX3_light_2 : decode cX3_light 2 = .ok (.iload_n 1, 1) := by decide +kernel
theorem dX3_light_3 : decode cX3_light 3 = .ok (.bipush 10, 2) := by decide +kernel
theorem dX3_light_5 : decode cX3_light 5 = .ok (.if_icmp .ge 28, 3) := by decide +kernel
theorem dX3_light_8 : decode cX3_light 8 = .ok (.aload_n 0, 1) := by decide +kernel
theorem dX3_light_9 : decode cX3_light 9 = .ok (.getfield 9, 3) := by decide +kernel
theorem dX3_light_12 : decode cX3_light 12 = .ok (.iload_n 1, 1) := by decide +kernel
theorem dX3_light_13 : decode cX3_light 13 = .ok (.aload_n 0, 1) := by decide +kernel
theorem dX3_light_14 : decode cX3_light 14 = .ok (.aload_n 0, 1) := by decide +kernel
theorem dX3_light_15 : decode cX3_light 15 = .ok (.getfield 22, 3) := by decide +kernel
theorem dX3_light_18 : decode cX3_light 18 = .ok (.aload_n 0, 1) := by decide +kernel
theorem dX3_light_19 : decode cX3_light 19 = .ok (.getfield 26, 3) := by decide +kernel
theorem dX3_light_22 : decode cX3_light 22 = .ok (.iload_n 1, 1) := by decide +kernel
theorem dX3_light_23 : decode cX3_light 23 = .ok (.invokevirtual 35, 3) := by decide +kernel
theorem dX3_light_26 : decode cX3_light 26 = .ok (.iastore, 1) := by decide +kernel
theorem dX3_light_27 : decode cX3_light 27 = .ok (.iinc 1 1, 3) := by decide +kernel
theorem dX3_light_30 : decode cX3_light 30 = .ok (.goto (-28), 3) := by decide +kernel
theorem dX3_light_33 : decode cX3_light 33 = .ok (.return_, 1) := by decide +kernel
theorem dX3_lit_0 : decode cX3_lit 0 = .ok (.iload_n 1, 1) := by decide +kernel
theorem dX3_lit_1 : decode cX3_lit 1 = .ok (.bipush 10, 2) := by decide +kernel
theorem dX3_lit_3 : decode cX3_lit 3 = .ok (.invokestatic 39, 3) := by decide +kernel
theorem dX3_lit_6 : decode cX3_lit 6 = .ok (.ifCond .eq 12, 3) := by decide +kernel
theorem dX3_lit_9 : decode cX3_lit 9 = .ok (.aload_n 0, 1) := by decide +kernel
theorem dX3_lit_10 : decode cX3_lit 10 = .ok (.getfield 9, 3) := by decide +kernel
theorem dX3_lit_13 : decode cX3_lit 13 = .ok (.iload_n 1, 1) := by decide +kernel
theorem dX3_lit_14 : decode cX3_lit 14 = .ok (.iaload, 1) := by decide +kernel
theorem dX3_lit_15 : decode cX3_lit 15 = .ok (.goto 4, 3) := by decide +kernel
theorem dX3_lit_18 : decode cX3_lit 18 = .ok (.iconst 0, 1) := by decide +kernel
theorem dX3_lit_19 : decode cX3_lit 19 = .ok (.ireturn, 1) := by decide +kernel
theorem dX3_litIf_0 : decode cX3_litIf 0 = .ok (.aload_n 0, 1) := by decide +kernel
theorem dX3_litIf_1 : decode cX3_litIf 1 = .ok (.getfield 18, 3) := by decide +kernel
theorem dX3_litIf_4 : decode cX3_litIf 4 = .ok (.iload_n 1, 1) := by decide +kernel
theorem dX3_litIf_5 : decode cX3_litIf 5 = .ok (.iload_n 3, 1) := by decide +kernel
theorem dX3_litIf_6 : decode cX3_litIf 6 = .ok (.invokevirtual 43, 3) := by decide +kernel
theorem dX3_litIf_9 : decode cX3_litIf 9 = .ok (.iload_n 2, 1) := by decide +kernel
theorem dX3_litIf_10 : decode cX3_litIf 10 = .ok (.iconst (-1), 1) := by decide +kernel
theorem dX3_litIf_11 : decode cX3_litIf 11 = .ok (.ixor, 1) := by decide +kernel
theorem dX3_litIf_12 : decode cX3_litIf 12 = .ok (.iand, 1) := by decide +kernel
theorem dX3_litIf_13 : decode cX3_litIf 13 = .ok (.aload_n 0, 1) := by decide +kernel
theorem dX3_litIf_14 : decode cX3_litIf 14 = .ok (.getfield 29, 3) := by decide +kernel
theorem dX3_litIf_17 : decode cX3_litIf 17 = .ok (.ior, 1) := by decide +kernel
theorem dX3_litIf_18 : decode cX3_litIf 18 = .ok (.ireturn, 1) := by decide +kernel
theorem dX3_digitsOf_0 : decode cX3_digitsOf 0 = .ok (.iconst 0, 1) := by decide +kernel
theorem dX3_digitsOf_1 : decode cX3_digitsOf 1 = .ok (.istore_n 2, 1) := by decide +kernel
theorem dX3_digitsOf_2 : decode cX3_digitsOf 2 = .ok (.iconst 0, 1) := by decide +kernel
theorem dX3_digitsOf_3 : decode cX3_digitsOf 3 = .ok (.istore_n 3, 1) := by decide +kernel
theorem dX3_digitsOf_4 : decode cX3_digitsOf 4 = .ok (.iload_n 3, 1) := by decide +kernel
theorem dX3_digitsOf_5 : decode cX3_digitsOf 5 = .ok (.bipush 10, 2) := by decide +kernel
theorem dX3_digitsOf_7 : decode cX3_digitsOf 7 = .ok (.if_icmp .ge 25, 3) := by decide +kernel
theorem dX3_digitsOf_10 : decode cX3_digitsOf 10 = .ok (.aload_n 0, 1) := by decide +kernel
theorem dX3_digitsOf_11 : decode cX3_digitsOf 11 = .ok (.getfield 9, 3) := by decide +kernel
theorem dX3_digitsOf_14 : decode cX3_digitsOf 14 = .ok (.iload_n 3, 1) := by decide +kernel
theorem dX3_digitsOf_15 : decode cX3_digitsOf 15 = .ok (.iaload, 1) := by decide +kernel
theorem dX3_digitsOf_16 : decode cX3_digitsOf 16 = .ok (.iload_n 1, 1) := by decide +kernel
theorem dX3_digitsOf_17 : decode cX3_digitsOf 17 = .ok (.if_icmp .ne 9, 3) := by decide +kernel
theorem dX3_digitsOf_20 : decode cX3_digitsOf 20 = .ok (.iload_n 2, 1) := by decide +kernel
theorem dX3_digitsOf_21 : decode cX3_digitsOf 21 = .ok (.iconst 1, 1) := by decide +kernel
theorem dX3_digitsOf_22 : decode cX3_digitsOf 22 = .ok (.iload_n 3, 1) := by decide +kernel
theorem dX3_digitsOf_23 : decode cX3_digitsOf 23 = .ok (.ishl, 1) := by decide +kernel
theorem dX3_digitsOf_24 : decode cX3_digitsOf 24 = .ok (.ior, 1) := by decide +kernel
theorem dX3_digitsOf_25 : decode cX3_digitsOf 25 = .ok (.istore_n 2, 1) := by decide +kernel
theorem dX3_digitsOf_26 : decode cX3_digitsOf 26 = .ok (.iinc 3 1, 3) := by decide +kernel
theorem dX3_digitsOf_29 : decode cX3_digitsOf 29 = .ok (.goto (-25), 3) := by decide +kernel
theorem dX3_digitsOf_32 : decode cX3_digitsOf 32 = .ok (.iload_n 2, 1) := by decide +kernel
theorem dX3_digitsOf_33 : decode cX3_digitsOf 33 = .ok (.ireturn, 1) := by decide +kernel
theorem dX3_unlikeSets_0 : decode cX3_unlikeSets 0 = .ok (.iconst 0, 1) := by decide +kernel
theorem dX3_unlikeSets_1 : decode cX3_unlikeSets 1 = .ok (.istore_n 1, 1) := by decide +kernel
theorem dX3_unlikeSets_2 : decode cX3_unlikeSets 2 = .ok (.iconst 0, 1) := by decide +kernel
theorem dX3_unlikeSets_3 : decode cX3_unlikeSets 3 = .ok (.istore_n 2, 1) := by decide +kernel
theorem dX3_unlikeSets_4 : decode cX3_unlikeSets 4 = .ok (.iload_n 2, 1) := by decide +kernel
theorem dX3_unlikeSets_5 : decode cX3_unlikeSets 5 = .ok (.bipush 10, 2) := by decide +kernel
theorem dX3_unlikeSets_7 : decode cX3_unlikeSets 7 = .ok (.if_icmp .ge 38, 3) := by decide +kernel
theorem dX3_unlikeSets_10 : decode cX3_unlikeSets 10 = .ok (.iconst 1, 1) := by decide +kernel
theorem dX3_unlikeSets_11 : decode cX3_unlikeSets 11 = .ok (.iload_n 2, 1) := by decide +kernel
theorem dX3_unlikeSets_12 : decode cX3_unlikeSets 12 = .ok (.ishl, 1) := by decide +kernel
theorem dX3_unlikeSets_13 : decode cX3_unlikeSets 13 = .ok (.iconst 1, 1) := by decide +kernel
theorem dX3_unlikeSets_14 : decode cX3_unlikeSets 14 = .ok (.isub, 1) := by decide +kernel
theorem dX3_unlikeSets_15 : decode cX3_unlikeSets 15 = .ok (.istore_n 3, 1) := by decide +kernel
theorem dX3_unlikeSets_16 : decode cX3_unlikeSets 16 = .ok (.iload_n 1, 1) := by decide +kernel
theorem dX3_unlikeSets_17 : decode cX3_unlikeSets 17 = .ok (.aload_n 0, 1) := by decide +kernel
theorem dX3_unlikeSets_18 : decode cX3_unlikeSets 18 = .ok (.aload_n 0, 1) := by decide +kernel
theorem dX3_unlikeSets_19 : decode cX3_unlikeSets 19 = .ok (.getfield 9, 3) := by decide +kernel
theorem dX3_unlikeSets_22 : decode cX3_unlikeSets 22 = .ok (.iload_n 2, 1) := by decide +kernel
theorem dX3_unlikeSets_23 : decode cX3_unlikeSets 23 = .ok (.iaload, 1) := by decide +kernel
theorem dX3_unlikeSets_24 : decode cX3_unlikeSets 24 = .ok (.invokevirtual 49, 3) := by decide +kernel
theorem dX3_unlikeSets_27 : decode cX3_unlikeSets 27 = .ok (.iload_n 3, 1) := by decide +kernel
theorem dX3_unlikeSets_28 : decode cX3_unlikeSets 28 = .ok (.iand, 1) := by decide +kernel
theorem dX3_unlikeSets_29 : decode cX3_unlikeSets 29 = .ok (.ifCond .ne 7, 3) := by decide +kernel
theorem dX3_unlikeSets_32 : decode cX3_unlikeSets 32 = .ok (.iconst 1, 1) := by decide +kernel
theorem dX3_unlikeSets_33 : decode cX3_unlikeSets 33 = .ok (.goto 4, 3) := by decide +kernel
theorem dX3_unlikeSets_36 : decode cX3_unlikeSets 36 = .ok (.iconst 0, 1) := by decide +kernel
theorem dX3_unlikeSets_37 : decode cX3_unlikeSets 37 = .ok (.iadd, 1) := by decide +kernel
theorem dX3_unlikeSets_38 : decode cX3_unlikeSets 38 = .ok (.istore_n 1, 1) := by decide +kernel
theorem dX3_unlikeSets_39 : decode cX3_unlikeSets 39 = .ok (.iinc 2 1, 3) := by decide +kernel
theorem dX3_unlikeSets_42 : decode cX3_unlikeSets 42 = .ok (.goto (-38), 3) := by decide +kernel
theorem dX3_unlikeSets_45 : decode cX3_unlikeSets 45 = .ok (.iload_n 1, 1) := by decide +kernel
theorem dX3_unlikeSets_46 : decode cX3_unlikeSets 46 = .ok (.ireturn, 1) := by decide +kernel
theorem dX3_loneDigits_0 : decode cX3_loneDigits 0 = .ok (.iconst 0, 1) := by decide +kernel
theorem dX3_loneDigits_1 : decode cX3_loneDigits 1 = .ok (.istore_n 1, 1) := by decide +kernel
theorem dX3_loneDigits_2 : decode cX3_loneDigits 2 = .ok (.iconst 0, 1) := by decide +kernel
theorem dX3_loneDigits_3 : decode cX3_loneDigits 3 = .ok (.istore_n 2, 1) := by decide +kernel
theorem dX3_loneDigits_4 : decode cX3_loneDigits 4 = .ok (.iload_n 2, 1) := by decide +kernel
theorem dX3_loneDigits_5 : decode cX3_loneDigits 5 = .ok (.bipush 10, 2) := by decide +kernel
theorem dX3_loneDigits_7 : decode cX3_loneDigits 7 = .ok (.if_icmp .ge 33, 3) := by decide +kernel
theorem dX3_loneDigits_10 : decode cX3_loneDigits 10 = .ok (.iload_n 1, 1) := by decide +kernel
theorem dX3_loneDigits_11 : decode cX3_loneDigits 11 = .ok (.aload_n 0, 1) := by decide +kernel
theorem dX3_loneDigits_12 : decode cX3_loneDigits 12 = .ok (.aload_n 0, 1) := by decide +kernel
theorem dX3_loneDigits_13 : decode cX3_loneDigits 13 = .ok (.getfield 9, 3) := by decide +kernel
theorem dX3_loneDigits_16 : decode cX3_loneDigits 16 = .ok (.iload_n 2, 1) := by decide +kernel
theorem dX3_loneDigits_17 : decode cX3_loneDigits 17 = .ok (.iaload, 1) := by decide +kernel
theorem dX3_loneDigits_18 : decode cX3_loneDigits 18 = .ok (.invokevirtual 49, 3) := by decide +kernel
theorem dX3_loneDigits_21 : decode cX3_loneDigits 21 = .ok (.iconst 1, 1) := by decide +kernel
theorem dX3_loneDigits_22 : decode cX3_loneDigits 22 = .ok (.iload_n 2, 1) := by decide +kernel
theorem dX3_loneDigits_23 : decode cX3_loneDigits 23 = .ok (.ishl, 1) := by decide +kernel
theorem dX3_loneDigits_24 : decode cX3_loneDigits 24 = .ok (.if_icmp .ne 7, 3) := by decide +kernel
theorem dX3_loneDigits_27 : decode cX3_loneDigits 27 = .ok (.iconst 1, 1) := by decide +kernel
theorem dX3_loneDigits_28 : decode cX3_loneDigits 28 = .ok (.goto 4, 3) := by decide +kernel
theorem dX3_loneDigits_31 : decode cX3_loneDigits 31 = .ok (.iconst 0, 1) := by decide +kernel
theorem dX3_loneDigits_32 : decode cX3_loneDigits 32 = .ok (.iadd, 1) := by decide +kernel
theorem dX3_loneDigits_33 : decode cX3_loneDigits 33 = .ok (.istore_n 1, 1) := by decide +kernel
theorem dX3_loneDigits_34 : decode cX3_loneDigits 34 = .ok (.iinc 2 1, 3) := by decide +kernel
theorem dX3_loneDigits_37 : decode cX3_loneDigits 37 = .ok (.goto (-33), 3) := by decide +kernel
theorem dX3_loneDigits_40 : decode cX3_loneDigits 40 = .ok (.iload_n 1, 1) := by decide +kernel
theorem dX3_loneDigits_41 : decode cX3_loneDigits 41 = .ok (.ireturn, 1) := by decide +kernel
theorem dX3_exchangeDead_0 : decode cX3_exchangeDead 0 = .ok (.aload_n 0, 1) := by decide +kernel
theorem dX3_exchangeDead_1 : decode cX3_exchangeDead 1 = .ok (.getfield 26, 3) := by decide +kernel
theorem dX3_exchangeDead_4 : decode cX3_exchangeDead 4 = .ok (.istore_n 2, 1) := by decide +kernel
theorem dX3_exchangeDead_5 : decode cX3_exchangeDead 5 = .ok (.aload_n 0, 1) := by decide +kernel
theorem dX3_exchangeDead_6 : decode cX3_exchangeDead 6 = .ok (.iload_n 1, 1) := by decide +kernel
theorem dX3_exchangeDead_7 : decode cX3_exchangeDead 7 = .ok (.putfield 26, 3) := by decide +kernel
theorem dX3_exchangeDead_10 : decode cX3_exchangeDead 10 = .ok (.iload_n 2, 1) := by decide +kernel
theorem dX3_exchangeDead_11 : decode cX3_exchangeDead 11 = .ok (.iload_n 1, 1) := by decide +kernel
theorem dX3_exchangeDead_12 : decode cX3_exchangeDead 12 = .ok (.iconst (-1), 1) := by decide +kernel
theorem dX3_exchangeDead_13 : decode cX3_exchangeDead 13 = .ok (.ixor, 1) := by decide +kernel
theorem dX3_exchangeDead_14 : decode cX3_exchangeDead 14 = .ok (.iand, 1) := by decide +kernel
theorem dX3_exchangeDead_15 : decode cX3_exchangeDead 15 = .ok (.istore_n 3, 1) := by decide +kernel
theorem dX3_exchangeDead_16 : decode cX3_exchangeDead 16 = .ok (.iconst 0, 1) := by decide +kernel
theorem dX3_exchangeDead_17 : decode cX3_exchangeDead 17 = .ok (.istore 4, 2) := by decide +kernel
theorem dX3_exchangeDead_19 : decode cX3_exchangeDead 19 = .ok (.iload 4, 2) := by decide +kernel
theorem dX3_exchangeDead_21 : decode cX3_exchangeDead 21 = .ok (.bipush 7, 2) := by decide +kernel
theorem dX3_exchangeDead_23 : decode cX3_exchangeDead 23 = .ok (.if_icmp .ge 26, 3) := by decide +kernel
theorem dX3_exchangeDead_26 : decode cX3_exchangeDead 26 = .ok (.iload_n 3, 1) := by decide +kernel
theorem dX3_exchangeDead_27 : decode cX3_exchangeDead 27 = .ok (.iload 4, 2) := by decide +kernel
theorem dX3_exchangeDead_29 : decode cX3_exchangeDead 29 = .ok (.ishr, 1) := by decide +kernel
theorem dX3_exchangeDead_30 : decode cX3_exchangeDead 30 = .ok (.iconst 1, 1) := by decide +kernel
theorem dX3_exchangeDead_31 : decode cX3_exchangeDead 31 = .ok (.iand, 1) := by decide +kernel
theorem dX3_exchangeDead_32 : decode cX3_exchangeDead 32 = .ok (.ifCond .eq 11, 3) := by decide +kernel
theorem dX3_exchangeDead_35 : decode cX3_exchangeDead 35 = .ok (.aload_n 0, 1) := by decide +kernel
theorem dX3_exchangeDead_36 : decode cX3_exchangeDead 36 = .ok (.getfield 15, 3) := by decide +kernel
theorem dX3_exchangeDead_39 : decode cX3_exchangeDead 39 = .ok (.iload 4, 2) := by decide +kernel
theorem dX3_exchangeDead_41 : decode cX3_exchangeDead 41 = .ok (.iconst 0, 1) := by decide +kernel
theorem dX3_exchangeDead_42 : decode cX3_exchangeDead 42 = .ok (.iastore, 1) := by decide +kernel
theorem dX3_exchangeDead_43 : decode cX3_exchangeDead 43 = .ok (.iinc 4 1, 3) := by decide +kernel
theorem dX3_exchangeDead_46 : decode cX3_exchangeDead 46 = .ok (.goto (-27), 3) := by decide +kernel
theorem dX3_exchangeDead_49 : decode cX3_exchangeDead 49 = .ok (.aload_n 0, 1) := by decide +kernel
theorem dX3_exchangeDead_50 : decode cX3_exchangeDead 50 = .ok (.invokevirtual 32, 3) := by decide +kernel
theorem dX3_exchangeDead_53 : decode cX3_exchangeDead 53 = .ok (.iload_n 2, 1) := by decide +kernel
theorem dX3_exchangeDead_54 : decode cX3_exchangeDead 54 = .ok (.ireturn, 1) := by decide +kernel
theorem dX3_exchangeStuck_0 : decode cX3_exchangeStuck 0 = .ok (.aload_n 0, 1) := by decide +kernel
theorem dX3_exchangeStuck_1 : decode cX3_exchangeStuck 1 = .ok (.getfield 29, 3) := by decide +kernel
theorem dX3_exchangeStuck_4 : decode cX3_exchangeStuck 4 = .ok (.istore_n 2, 1) := by decide +kernel
theorem dX3_exchangeStuck_5 : decode cX3_exchangeStuck 5 = .ok (.aload_n 0, 1) := by decide +kernel
theorem dX3_exchangeStuck_6 : decode cX3_exchangeStuck 6 = .ok (.iload_n 1, 1) := by decide +kernel
theorem dX3_exchangeStuck_7 : decode cX3_exchangeStuck 7 = .ok (.putfield 29, 3) := by decide +kernel
theorem dX3_exchangeStuck_10 : decode cX3_exchangeStuck 10 = .ok (.aload_n 0, 1) := by decide +kernel
theorem dX3_exchangeStuck_11 : decode cX3_exchangeStuck 11 = .ok (.invokevirtual 32, 3) := by decide +kernel
theorem dX3_exchangeStuck_14 : decode cX3_exchangeStuck 14 = .ok (.iload_n 2, 1) := by decide +kernel
theorem dX3_exchangeStuck_15 : decode cX3_exchangeStuck 15 = .ok (.ireturn, 1) := by decide +kernel
theorem dX3_wearBetween_0 : decode cX3_wearBetween 0 = .ok (.aload_n 0, 1) := by decide +kernel
theorem dX3_wearBetween_1 : decode cX3_wearBetween 1 = .ok (.iload_n 1, 1) := by decide +kernel
theorem dX3_wearBetween_2 : decode cX3_wearBetween 2 = .ok (.invokevirtual 53, 3) := by decide +kernel
theorem dX3_wearBetween_5 : decode cX3_wearBetween 5 = .ok (.aload_n 0, 1) := by decide +kernel
theorem dX3_wearBetween_6 : decode cX3_wearBetween 6 = .ok (.iload_n 2, 1) := by decide +kernel
theorem dX3_wearBetween_7 : decode cX3_wearBetween 7 = .ok (.invokevirtual 53, 3) := by decide +kernel
theorem dX3_wearBetween_10 : decode cX3_wearBetween 10 = .ok (.ixor, 1) := by decide +kernel
theorem dX3_wearBetween_11 : decode cX3_wearBetween 11 = .ok (.istore 4, 2) := by decide +kernel
theorem dX3_wearBetween_13 : decode cX3_wearBetween 13 = .ok (.iconst 0, 1) := by decide +kernel
theorem dX3_wearBetween_14 : decode cX3_wearBetween 14 = .ok (.istore 5, 2) := by decide +kernel
theorem dX3_wearBetween_16 : decode cX3_wearBetween 16 = .ok (.iconst 0, 1) := by decide +kernel
theorem dX3_wearBetween_17 : decode cX3_wearBetween 17 = .ok (.istore 6, 2) := by decide +kernel
theorem dX3_wearBetween_19 : decode cX3_wearBetween 19 = .ok (.iload 6, 2) := by decide +kernel
theorem dX3_wearBetween_21 : decode cX3_wearBetween 21 = .ok (.bipush 7, 2) := by decide +kernel
theorem dX3_wearBetween_23 : decode cX3_wearBetween 23 = .ok (.if_icmp .ge 57, 3) := by decide +kernel
theorem dX3_wearBetween_26 : decode cX3_wearBetween 26 = .ok (.iload 4, 2) := by decide +kernel
theorem dX3_wearBetween_28 : decode cX3_wearBetween 28 = .ok (.iload 6, 2) := by decide +kernel
theorem dX3_wearBetween_30 : decode cX3_wearBetween 30 = .ok (.ishr, 1) := by decide +kernel
theorem dX3_wearBetween_31 : decode cX3_wearBetween 31 = .ok (.iconst 1, 1) := by decide +kernel
theorem dX3_wearBetween_32 : decode cX3_wearBetween 32 = .ok (.iand, 1) := by decide +kernel
theorem dX3_wearBetween_33 : decode cX3_wearBetween 33 = .ok (.ifCond .eq 41, 3) := by decide +kernel
theorem dX3_wearBetween_36 : decode cX3_wearBetween 36 = .ok (.aload_n 0, 1) := by decide +kernel
theorem dX3_wearBetween_37 : decode cX3_wearBetween 37 = .ok (.getfield 15, 3) := by decide +kernel
theorem dX3_wearBetween_40 : decode cX3_wearBetween 40 = .ok (.iload 6, 2) := by decide +kernel
theorem dX3_wearBetween_42 : decode cX3_wearBetween 42 = .ok (.dup2, 1) := by decide +kernel
theorem dX3_wearBetween_43 : decode cX3_wearBetween 43 = .ok (.iaload, 1) := by decide +kernel
theorem dX3_wearBetween_44 : decode cX3_wearBetween 44 = .ok (.iconst 1, 1) := by decide +kernel
theorem dX3_wearBetween_45 : decode cX3_wearBetween 45 = .ok (.iadd, 1) := by decide +kernel
theorem dX3_wearBetween_46 : decode cX3_wearBetween 46 = .ok (.iastore, 1) := by decide +kernel
theorem dX3_wearBetween_47 : decode cX3_wearBetween 47 = .ok (.aload_n 0, 1) := by decide +kernel
theorem dX3_wearBetween_48 : decode cX3_wearBetween 48 = .ok (.getfield 15, 3) := by decide +kernel
theorem dX3_wearBetween_51 : decode cX3_wearBetween 51 = .ok (.iload 6, 2) := by decide +kernel
theorem dX3_wearBetween_53 : decode cX3_wearBetween 53 = .ok (.iaload, 1) := by decide +kernel
theorem dX3_wearBetween_54 : decode cX3_wearBetween 54 = .ok (.iload_n 3, 1) := by decide +kernel
theorem dX3_wearBetween_55 : decode cX3_wearBetween 55 = .ok (.if_icmp .lt 19, 3) := by decide +kernel
theorem dX3_wearBetween_58 : decode cX3_wearBetween 58 = .ok (.aload_n 0, 1) := by decide +kernel
theorem dX3_wearBetween_59 : decode cX3_wearBetween 59 = .ok (.dup, 1) := by decide +kernel
theorem dX3_wearBetween_60 : decode cX3_wearBetween 60 = .ok (.getfield 26, 3) := by decide +kernel
theorem dX3_wearBetween_63 : decode cX3_wearBetween 63 = .ok (.iconst 1, 1) := by decide +kernel
theorem dX3_wearBetween_64 : decode cX3_wearBetween 64 = .ok (.iload 6, 2) := by decide +kernel
theorem dX3_wearBetween_66 : decode cX3_wearBetween 66 = .ok (.ishl, 1) := by decide +kernel
theorem dX3_wearBetween_67 : decode cX3_wearBetween 67 = .ok (.ior, 1) := by decide +kernel
theorem dX3_wearBetween_68 : decode cX3_wearBetween 68 = .ok (.putfield 26, 3) := by decide +kernel
theorem dX3_wearBetween_71 : decode cX3_wearBetween 71 = .ok (.iinc 5 1, 3) := by decide +kernel
theorem dX3_wearBetween_74 : decode cX3_wearBetween 74 = .ok (.iinc 6 1, 3) := by decide +kernel
theorem dX3_wearBetween_77 : decode cX3_wearBetween 77 = .ok (.goto (-58), 3) := by decide +kernel
theorem dX3_wearBetween_80 : decode cX3_wearBetween 80 = .ok (.iload 5, 2) := by decide +kernel
theorem dX3_wearBetween_82 : decode cX3_wearBetween 82 = .ok (.ifCond .le 7, 3) := by decide +kernel
theorem dX3_wearBetween_85 : decode cX3_wearBetween 85 = .ok (.aload_n 0, 1) := by decide +kernel
theorem dX3_wearBetween_86 : decode cX3_wearBetween 86 = .ok (.invokevirtual 32, 3) := by decide +kernel
theorem dX3_wearBetween_89 : decode cX3_wearBetween 89 = .ok (.iload 5, 2) := by decide +kernel
theorem dX3_wearBetween_91 : decode cX3_wearBetween 91 = .ok (.ireturn, 1) := by decide +kernel
theorem dX3_isClearIf_0 : decode cX3_isClearIf 0 = .ok (.iload_n 1, 1) := by decide +kernel
theorem dX3_isClearIf_1 : decode cX3_isClearIf 1 = .ok (.aload_n 0, 1) := by decide +kernel
theorem dX3_isClearIf_2 : decode cX3_isClearIf 2 = .ok (.getfield 29, 3) := by decide +kernel
theorem dX3_isClearIf_5 : decode cX3_isClearIf 5 = .ok (.ior, 1) := by decide +kernel
theorem dX3_isClearIf_6 : decode cX3_isClearIf 6 = .ok (.iconst (-1), 1) := by decide +kernel
theorem dX3_isClearIf_7 : decode cX3_isClearIf 7 = .ok (.ixor, 1) := by decide +kernel
theorem dX3_isClearIf_8 : decode cX3_isClearIf 8 = .ok (.istore_n 2, 1) := by decide +kernel
theorem dX3_isClearIf_9 : decode cX3_isClearIf 9 = .ok (.iconst 1, 1) := by decide +kernel
theorem dX3_isClearIf_10 : decode cX3_isClearIf 10 = .ok (.istore_n 3, 1) := by decide +kernel
theorem dX3_isClearIf_11 : decode cX3_isClearIf 11 = .ok (.iload_n 3, 1) := by decide +kernel
theorem dX3_isClearIf_12 : decode cX3_isClearIf 12 = .ok (.bipush 10, 2) := by decide +kernel
theorem dX3_isClearIf_14 : decode cX3_isClearIf 14 = .ok (.if_icmp .ge 61, 3) := by decide +kernel
theorem dX3_isClearIf_17 : decode cX3_isClearIf 17 = .ok (.aload_n 0, 1) := by decide +kernel
theorem dX3_isClearIf_18 : decode cX3_isClearIf 18 = .ok (.getfield 18, 3) := by decide +kernel
theorem dX3_isClearIf_21 : decode cX3_isClearIf 21 = .ok (.aload_n 0, 1) := by decide +kernel
theorem dX3_isClearIf_22 : decode cX3_isClearIf 22 = .ok (.getfield 22, 3) := by decide +kernel
theorem dX3_isClearIf_25 : decode cX3_isClearIf 25 = .ok (.iload_n 3, 1) := by decide +kernel
theorem dX3_isClearIf_26 : decode cX3_isClearIf 26 = .ok (.invokevirtual 43, 3) := by decide +kernel
theorem dX3_isClearIf_29 : decode cX3_isClearIf 29 = .ok (.istore 4, 2) := by decide +kernel
theorem dX3_isClearIf_31 : decode cX3_isClearIf 31 = .ok (.iconst 0, 1) := by decide +kernel
theorem dX3_isClearIf_32 : decode cX3_isClearIf 32 = .ok (.istore 5, 2) := by decide +kernel
theorem dX3_isClearIf_34 : decode cX3_isClearIf 34 = .ok (.iload 5, 2) := by decide +kernel
theorem dX3_isClearIf_36 : decode cX3_isClearIf 36 = .ok (.iload_n 3, 1) := by decide +kernel
theorem dX3_isClearIf_37 : decode cX3_isClearIf 37 = .ok (.if_icmp .ge 32, 3) := by decide +kernel
theorem dX3_isClearIf_40 : decode cX3_isClearIf 40 = .ok (.iload 4, 2) := by decide +kernel
theorem dX3_isClearIf_42 : decode cX3_isClearIf 42 = .ok (.aload_n 0, 1) := by decide +kernel
theorem dX3_isClearIf_43 : decode cX3_isClearIf 43 = .ok (.getfield 18, 3) := by decide +kernel
theorem dX3_isClearIf_46 : decode cX3_isClearIf 46 = .ok (.aload_n 0, 1) := by decide +kernel
theorem dX3_isClearIf_47 : decode cX3_isClearIf 47 = .ok (.getfield 22, 3) := by decide +kernel
theorem dX3_isClearIf_50 : decode cX3_isClearIf 50 = .ok (.iload 5, 2) := by decide +kernel
theorem dX3_isClearIf_52 : decode cX3_isClearIf 52 = .ok (.invokevirtual 43, 3) := by decide +kernel
theorem dX3_isClearIf_55 : decode cX3_isClearIf 55 = .ok (.ixor, 1) := by decide +kernel
theorem dX3_isClearIf_56 : decode cX3_isClearIf 56 = .ok (.iload_n 2, 1) := by decide +kernel
theorem dX3_isClearIf_57 : decode cX3_isClearIf 57 = .ok (.iand, 1) := by decide +kernel
theorem dX3_isClearIf_58 : decode cX3_isClearIf 58 = .ok (.ifCond .ne 5, 3) := by decide +kernel
theorem dX3_isClearIf_61 : decode cX3_isClearIf 61 = .ok (.iconst 0, 1) := by decide +kernel
theorem dX3_isClearIf_62 : decode cX3_isClearIf 62 = .ok (.ireturn, 1) := by decide +kernel
theorem dX3_isClearIf_63 : decode cX3_isClearIf 63 = .ok (.iinc 5 1, 3) := by decide +kernel
theorem dX3_isClearIf_66 : decode cX3_isClearIf 66 = .ok (.goto (-32), 3) := by decide +kernel
theorem dX3_isClearIf_69 : decode cX3_isClearIf 69 = .ok (.iinc 3 1, 3) := by decide +kernel
theorem dX3_isClearIf_72 : decode cX3_isClearIf 72 = .ok (.goto (-61), 3) := by decide +kernel
theorem dX3_isClearIf_75 : decode cX3_isClearIf 75 = .ok (.iconst 1, 1) := by decide +kernel
theorem dX3_isClearIf_76 : decode cX3_isClearIf 76 = .ok (.ireturn, 1) := by decide +kernel
theorem dX3_fewestToMend_0 : decode cX3_fewestToMend 0 = .ok (.bipush (-9), 2) := by decide +kernel
theorem dX3_fewestToMend_2 : decode cX3_fewestToMend 2 = .ok (.istore_n 1, 1) := by decide +kernel
theorem dX3_fewestToMend_3 : decode cX3_fewestToMend 3 = .ok (.bipush 8, 2) := by decide +kernel
theorem dX3_fewestToMend_5 : decode cX3_fewestToMend 5 = .ok (.istore_n 2, 1) := by decide +kernel
theorem dX3_fewestToMend_6 : decode cX3_fewestToMend 6 = .ok (.iconst 0, 1) := by decide +kernel
theorem dX3_fewestToMend_7 : decode cX3_fewestToMend 7 = .ok (.istore_n 3, 1) := by decide +kernel
theorem dX3_fewestToMend_8 : decode cX3_fewestToMend 8 = .ok (.iload_n 3, 1) := by decide +kernel
theorem dX3_fewestToMend_9 : decode cX3_fewestToMend 9 = .ok (.sipush 128, 3) := by decide +kernel
theorem dX3_fewestToMend_12 : decode cX3_fewestToMend 12 = .ok (.if_icmp .ge 52, 3) := by decide +kernel
theorem dX3_fewestToMend_15 : decode cX3_fewestToMend 15 = .ok (.iload_n 3, 1) := by decide +kernel
theorem dX3_fewestToMend_16 : decode cX3_fewestToMend 16 = .ok (.invokestatic 56, 3) := by decide +kernel
theorem dX3_fewestToMend_19 : decode cX3_fewestToMend 19 = .ok (.istore 4, 2) := by decide +kernel
theorem dX3_fewestToMend_21 : decode cX3_fewestToMend 21 = .ok (.iload_n 3, 1) := by decide +kernel
theorem dX3_fewestToMend_22 : decode cX3_fewestToMend 22 = .ok (.aload_n 0, 1) := by decide +kernel
theorem dX3_fewestToMend_23 : decode cX3_fewestToMend 23 = .ok (.getfield 26, 3) := by decide +kernel
theorem dX3_fewestToMend_26 : decode cX3_fewestToMend 26 = .ok (.iconst (-1), 1) := by decide +kernel
theorem dX3_fewestToMend_27 : decode cX3_fewestToMend 27 = .ok (.ixor, 1) := by decide +kernel
theorem dX3_fewestToMend_28 : decode cX3_fewestToMend 28 = .ok (.iand, 1) := by decide +kernel
theorem dX3_fewestToMend_29 : decode cX3_fewestToMend 29 = .ok (.ifCond .ne 29, 3) := by decide +kernel
theorem dX3_fewestToMend_32 : decode cX3_fewestToMend 32 = .ok (.iload 4, 2) := by decide +kernel
theorem dX3_fewestToMend_34 : decode cX3_fewestToMend 34 = .ok (.iload_n 2, 1) := by decide +kernel
theorem dX3_fewestToMend_35 : decode cX3_fewestToMend 35 = .ok (.if_icmp .ge 23, 3) := by decide +kernel
theorem dX3_fewestToMend_38 : decode cX3_fewestToMend 38 = .ok (.aload_n 0, 1) := by decide +kernel
theorem dX3_fewestToMend_39 : decode cX3_fewestToMend 39 = .ok (.aload_n 0, 1) := by decide +kernel
theorem dX3_fewestToMend_40 : decode cX3_fewestToMend 40 = .ok (.getfield 26, 3) := by decide +kernel
theorem dX3_fewestToMend_43 : decode cX3_fewestToMend 43 = .ok (.iload_n 3, 1) := by decide +kernel
theorem dX3_fewestToMend_44 : decode cX3_fewestToMend 44 = .ok (.iconst (-1), 1) := by decide +kernel
theorem dX3_fewestToMend_45 : decode cX3_fewestToMend 45 = .ok (.ixor, 1) := by decide +kernel
theorem dX3_fewestToMend_46 : decode cX3_fewestToMend 46 = .ok (.iand, 1) := by decide +kernel
theorem dX3_fewestToMend_47 : decode cX3_fewestToMend 47 = .ok (.invokevirtual 61, 3) := by decide +kernel
theorem dX3_fewestToMend_50 : decode cX3_fewestToMend 50 = .ok (.ifCond .eq 8, 3) := by decide +kernel
theorem dX3_fewestToMend_53 : decode cX3_fewestToMend 53 = .ok (.iload_n 3, 1) := by decide +kernel
theorem dX3_fewestToMend_54 : decode cX3_fewestToMend 54 = .ok (.istore_n 1, 1) := by decide +kernel
theorem dX3_fewestToMend_55 : decode cX3_fewestToMend 55 = .ok (.iload 4, 2) := by decide +kernel
theorem dX3_fewestToMend_57 : decode cX3_fewestToMend 57 = .ok (.istore_n 2, 1) := by decide +kernel
theorem dX3_fewestToMend_58 : decode cX3_fewestToMend 58 = .ok (.iinc 3 1, 3) := by decide +kernel
theorem dX3_fewestToMend_61 : decode cX3_fewestToMend 61 = .ok (.goto (-53), 3) := by decide +kernel
theorem dX3_fewestToMend_64 : decode cX3_fewestToMend 64 = .ok (.iload_n 1, 1) := by decide +kernel
theorem dX3_fewestToMend_65 : decode cX3_fewestToMend 65 = .ok (.ireturn, 1) := by decide +kernel
theorem dX4_init_0 : decode cX4_init 0 = .ok (.aload_n 0, 1) := by decide +kernel
theorem dX4_init_1 : decode cX4_init 1 = .ok (.invokespecial 3, 3) := by decide +kernel
theorem dX4_init_4 : decode cX4_init 4 = .ok (.aload_n 0, 1) := by decide +kernel
theorem dX4_init_5 : decode cX4_init 5 = .ok (.bipush 8, 2) := by decide +kernel
theorem dX4_init_7 : decode cX4_init 7 = .ok (.newarray .int, 2) := by decide +kernel
theorem dX4_init_9 : decode cX4_init 9 = .ok (.putfield 9, 3) := by decide +kernel
theorem dX4_init_12 : decode cX4_init 12 = .ok (.aload_n 0, 1) := by decide +kernel
theorem dX4_init_13 : decode cX4_init 13 = .ok (.bipush 8, 2) := by decide +kernel
theorem dX4_init_15 : decode cX4_init 15 = .ok (.newarray .int, 2) := by decide +kernel
theorem dX4_init_17 : decode cX4_init 17 = .ok (.putfield 15, 3) := by decide +kernel
theorem dX4_init_20 : decode cX4_init 20 = .ok (.aload_n 0, 1) := by decide +kernel
theorem dX4_init_21 : decode cX4_init 21 = .ok (.bipush 8, 2) := by decide +kernel
theorem dX4_init_23 : decode cX4_init 23 = .ok (.newarray .int, 2) := by decide +kernel
theorem dX4_init_25 : decode cX4_init 25 = .ok (.putfield 18, 3) := by decide +kernel
theorem dX4_init_28 : decode cX4_init 28 = .ok (.return_, 1) := by decide +kernel
theorem dX4_add_0 : decode cX4_add 0 = .ok (.aload_n 0, 1) := by decide +kernel
theorem dX4_add_1 : decode cX4_add 1 = .ok (.getfield 21, 3) := by decide +kernel
theorem dX4_add_4 : decode cX4_add 4 = .ok (.bipush 8, 2) := by decide +kernel
theorem dX4_add_6 : decode cX4_add 6 = .ok (.if_icmp .lt 6, 3) := by decide +kernel
theorem dX4_add_9 : decode cX4_add 9 = .ok (.bipush (-4), 2) := by decide +kernel
theorem dX4_add_11 : decode cX4_add 11 = .ok (.ireturn, 1) := by decide +kernel
theorem dX4_add_12 : decode cX4_add 12 = .ok (.aload_n 0, 1) := by decide +kernel
theorem dX4_add_13 : decode cX4_add 13 = .ok (.getfield 9, 3) := by decide +kernel
theorem dX4_add_16 : decode cX4_add 16 = .ok (.aload_n 0, 1) := by decide +kernel
theorem dX4_add_17 : decode cX4_add 17 = .ok (.getfield 21, 3) := by decide +kernel
theorem dX4_add_20 : decode cX4_add 20 = .ok (.iload_n 1, 1) := by decide +kernel
theorem dX4_add_21 : decode cX4_add 21 = .ok (.iastore, 1) := by decide +kernel
theorem dX4_add_22 : decode cX4_add 22 = .ok (.aload_n 0, 1) := by decide +kernel
theorem dX4_add_23 : decode cX4_add 23 = .ok (.getfield 15, 3) := by decide +kernel
theorem dX4_add_26 : decode cX4_add 26 = .ok (.aload_n 0, 1) := by decide +kernel
theorem dX4_add_27 : decode cX4_add 27 = .ok (.getfield 21, 3) := by decide +kernel
theorem dX4_add_30 : decode cX4_add 30 = .ok (.iload_n 2, 1) := by decide +kernel
theorem dX4_add_31 : decode cX4_add 31 = .ok (.iastore, 1) := by decide +kernel
theorem dX4_add_32 : decode cX4_add 32 = .ok (.aload_n 0, 1) := by decide +kernel
theorem dX4_add_33 : decode cX4_add 33 = .ok (.getfield 18, 3) := by decide +kernel
theorem dX4_add_36 : decode cX4_add 36 = .ok (.aload_n 0, 1) := by decide +kernel
theorem dX4_add_37 : decode cX4_add 37 = .ok (.getfield 21, 3) := by decide +kernel
theorem dX4_add_40 : decode cX4_add 40 = .ok (.iload_n 3, 1) := by decide +kernel
theorem dX4_add_41 : decode cX4_add 41 = .ok (.iastore, 1) := by decide +kernel
theorem dX4_add_42 : decode cX4_add 42 = .ok (.aload_n 0, 1) := by decide +kernel
theorem dX4_add_43 : decode cX4_add 43 = .ok (.dup, 1) := by decide +kernel
theorem dX4_add_44 : decode cX4_add 44 = .ok (.getfield 21, 3) := by decide +kernel
theorem dX4_add_47 : decode cX4_add 47 = .ok (.iconst 1, 1) := by decide +kernel
theorem dX4_add_48 : decode cX4_add 48 = .ok (.iadd, 1) := by decide +kernel
theorem dX4_add_49 : decode cX4_add 49 = .ok (.putfield 21, 3) := by decide +kernel
theorem dX4_add_52 : decode cX4_add 52 = .ok (.aload_n 0, 1) := by decide +kernel
theorem dX4_add_53 : decode cX4_add 53 = .ok (.getfield 21, 3) := by decide +kernel
theorem dX4_add_56 : decode cX4_add 56 = .ok (.iconst 1, 1) := by decide +kernel
theorem dX4_add_57 : decode cX4_add 57 = .ok (.isub, 1) := by decide +kernel
theorem dX4_add_58 : decode cX4_add 58 = .ok (.ireturn, 1) := by decide +kernel
theorem dX4_allAreSo_0 : decode cX4_allAreSo 0 = .ok (.iconst 0, 1) := by decide +kernel
theorem dX4_allAreSo_1 : decode cX4_allAreSo 1 = .ok (.istore 5, 2) := by decide +kernel
theorem dX4_allAreSo_3 : decode cX4_allAreSo 3 = .ok (.iload 5, 2) := by decide +kernel
theorem dX4_allAreSo_5 : decode cX4_allAreSo 5 = .ok (.aload_n 0, 1) := by decide +kernel
theorem dX4_allAreSo_6 : decode cX4_allAreSo 6 = .ok (.getfield 21, 3) := by decide +kernel
theorem dX4_allAreSo_9 : decode cX4_allAreSo 9 = .ok (.if_icmp .ge 99, 3) := by decide +kernel
theorem dX4_allAreSo_12 : decode cX4_allAreSo 12 = .ok (.aload_n 0, 1) := by decide +kernel
theorem dX4_allAreSo_13 : decode cX4_allAreSo 13 = .ok (.getfield 9, 3) := by decide +kernel
theorem dX4_allAreSo_16 : decode cX4_allAreSo 16 = .ok (.iload 5, 2) := by decide +kernel
theorem dX4_allAreSo_18 : decode cX4_allAreSo 18 = .ok (.iaload, 1) := by decide +kernel
theorem dX4_allAreSo_19 : decode cX4_allAreSo 19 = .ok (.aload_n 1, 1) := by decide +kernel
theorem dX4_allAreSo_20 : decode cX4_allAreSo 20 = .ok (.getfield 25, 3) := by decide +kernel
theorem dX4_allAreSo_23 : decode cX4_allAreSo 23 = .ok (.invokestatic 28, 3) := by decide +kernel
theorem dX4_allAreSo_26 : decode cX4_allAreSo 26 = .ok (.ifCond .ne 5, 3) := by decide +kernel
theorem dX4_allAreSo_29 : decode cX4_allAreSo 29 = .ok (.iconst 0, 1) := by decide +kernel
theorem dX4_allAreSo_30 : decode cX4_allAreSo 30 = .ok (.ireturn, 1) := by decide +kernel
theorem dX4_allAreSo_31 : decode cX4_allAreSo 31 = .ok (.aload_n 1, 1) := by decide +kernel
theorem dX4_allAreSo_32 : decode cX4_allAreSo 32 = .ok (.getfield 32, 3) := by decide +kernel
theorem dX4_allAreSo_35 : decode cX4_allAreSo 35 = .ok (.aload_n 0, 1) := by decide +kernel
theorem dX4_allAreSo_36 : decode cX4_allAreSo 36 = .ok (.getfield 9, 3) := by decide +kernel
theorem dX4_allAreSo_39 : decode cX4_allAreSo 39 = .ok (.iload 5, 2) := by decide +kernel
theorem dX4_allAreSo_41 : decode cX4_allAreSo 41 = .ok (.iaload, 1) := by decide +kernel
theorem dX4_allAreSo_42 : decode cX4_allAreSo 42 = .ok (.aaload, 1) := by decide +kernel
theorem dX4_allAreSo_43 : decode cX4_allAreSo 43 = .ok (.astore 6, 2) := by decide +kernel
theorem dX4_allAreSo_45 : decode cX4_allAreSo 45 = .ok (.aload_n 0, 1) := by decide +kernel
theorem dX4_allAreSo_46 : decode cX4_allAreSo 46 = .ok (.getfield 9, 3) := by decide +kernel
theorem dX4_allAreSo_49 : decode cX4_allAreSo 49 = .ok (.iload 5, 2) := by decide +kernel
theorem dX4_allAreSo_51 : decode cX4_allAreSo 51 = .ok (.iaload, 1) := by decide +kernel
theorem dX4_allAreSo_52 : decode cX4_allAreSo 52 = .ok (.iload_n 2, 1) := by decide +kernel
theorem dX4_allAreSo_53 : decode cX4_allAreSo 53 = .ok (.if_icmp .ne 21, 3) := by decide +kernel
theorem dX4_allAreSo_56 : decode cX4_allAreSo 56 = .ok (.aload 6, 2) := by decide +kernel
theorem dX4_allAreSo_58 : decode cX4_allAreSo 58 = .ok (.iload_n 3, 1) := by decide +kernel
theorem dX4_allAreSo_59 : decode cX4_allAreSo 59 = .ok (.iload 4, 2) := by decide +kernel
theorem dX4_allAreSo_61 : decode cX4_allAreSo 61 = .ok (.aload_n 0, 1) := by decide +kernel
theorem dX4_allAreSo_62 : decode cX4_allAreSo 62 = .ok (.getfield 15, 3) := by decide +kernel
theorem dX4_allAreSo_65 : decode cX4_allAreSo 65 = .ok (.iload 5, 2) := by decide +kernel
theorem dX4_allAreSo_67 : decode cX4_allAreSo 67 = .ok (.iaload, 1) := by decide +kernel
theorem dX4_allAreSo_68 : decode cX4_allAreSo 68 = .ok (.invokevirtual 35, 3) := by decide +kernel
theorem dX4_allAreSo_71 : decode cX4_allAreSo 71 = .ok (.goto 15, 3) := by decide +kernel
theorem dX4_allAreSo_74 : decode cX4_allAreSo 74 = .ok (.aload 6, 2) := by decide +kernel
theorem dX4_allAreSo_76 : decode cX4_allAreSo 76 = .ok (.aload_n 0, 1) := by decide +kernel
theorem dX4_allAreSo_77 : decode cX4_allAreSo 77 = .ok (.getfield 15, 3) := by decide +kernel
theorem dX4_allAreSo_80 : decode cX4_allAreSo 80 = .ok (.iload 5, 2) := by decide +kernel
theorem dX4_allAreSo_82 : decode cX4_allAreSo 82 = .ok (.iaload, 1) := by decide +kernel
theorem dX4_allAreSo_83 : decode cX4_allAreSo 83 = .ok (.invokevirtual 41, 3) := by decide +kernel
theorem dX4_allAreSo_86 : decode cX4_allAreSo 86 = .ok (.istore 7, 2) := by decide +kernel
theorem dX4_allAreSo_88 : decode cX4_allAreSo 88 = .ok (.iload 7, 2) := by decide +kernel
theorem dX4_allAreSo_90 : decode cX4_allAreSo 90 = .ok (.aload_n 0, 1) := by decide +kernel
theorem dX4_allAreSo_91 : decode cX4_allAreSo 91 = .ok (.getfield 18, 3) := by decide +kernel
theorem dX4_allAreSo_94 : decode cX4_allAreSo 94 = .ok (.iload 5, 2) := by decide +kernel
theorem dX4_allAreSo_96 : decode cX4_allAreSo 96 = .ok (.iaload, 1) := by decide +kernel
theorem dX4_allAreSo_97 : decode cX4_allAreSo 97 = .ok (.if_icmp .eq 5, 3) := by decide +kernel
theorem dX4_allAreSo_100 : decode cX4_allAreSo 100 = .ok (.iconst 0, 1) := by decide +kernel
theorem dX4_allAreSo_101 : decode cX4_allAreSo 101 = .ok (.ireturn, 1) := by decide +kernel
theorem dX4_allAreSo_102 : decode cX4_allAreSo 102 = .ok (.iinc 5 1, 3) := by decide +kernel
theorem dX4_allAreSo_105 : decode cX4_allAreSo 105 = .ok (.goto (-102), 3) := by decide +kernel
theorem dX4_allAreSo_108 : decode cX4_allAreSo 108 = .ok (.iconst 1, 1) := by decide +kernel
theorem dX4_allAreSo_109 : decode cX4_allAreSo 109 = .ok (.ireturn, 1) := by decide +kernel
theorem dX5_init_0 : decode cX5_init 0 = .ok (.aload_n 0, 1) := by decide +kernel
theorem dX5_init_1 : decode cX5_init 1 = .ok (.invokespecial 3, 3) := by decide +kernel
theorem dX5_init_4 : decode cX5_init 4 = .ok (.aload_n 0, 1) := by decide +kernel
end
section
theorem dX5_init_5 : decode cX5_init 5 = .ok (.bipush 60, 2) := by decide +kernel
theorem dX5_init_7 : decode cX5_init 7 = .ok (.newarray .int, 2) := by decide +kernel
theorem dX5_init_9 : decode cX5_init 9 = .ok (.putfield 9, 3) := by decide +kernel
theorem dX5_init_12 : decode cX5_init 12 = .ok (.aload_n 0, 1) := by decide +kernel
theorem dX5_init_13 : decode cX5_init 13 = .ok (.iconst (-1), 1) := by decide +kernel
theorem dX5_init_14 : decode cX5_init 14 = .ok (.putfield 15, 3) := by decide +kernel
theorem dX5_init_17 : decode cX5_init 17 = .ok (.return_, 1) := by decide +kernel
theorem dX5_isNothing_0 : decode cX5_isNothing 0 = .ok (.aload_n 0, 1) := by decide +kernel
theorem dX5_isNothing_1 : decode cX5_isNothing 1 = .ok (.getfield 15, 3) := by decide +kernel
theorem dX5_isNothing_4 : decode cX5_isNothing 4 = .ok (.iconst (-1), 1) := by decide +kernel
theorem dX5_isNothing_5 : decode cX5_isNothing 5 = .ok (.if_icmp .ne 7, 3) := by decide +kernel
theorem dX5_isNothing_8 : decode cX5_isNothing 8 = .ok (.iconst 1, 1) := by decide +kernel
theorem dX5_isNothing_9 : decode cX5_isNothing 9 = .ok (.goto 4, 3) := by decide +kernel
theorem dX5_isNothing_12 : decode cX5_isNothing 12 = .ok (.iconst 0, 1) := by decide +kernel
theorem dX5_isNothing_13 : decode cX5_isNothing 13 = .ok (.ireturn, 1) := by decide +kernel
theorem dX5_renew_0 : decode cX5_renew 0 = .ok (.aload_n 0, 1) := by decide +kernel
theorem dX5_renew_1 : decode cX5_renew 1 = .ok (.iload_n 1, 1) := by decide +kernel
theorem dX5_renew_2 : decode cX5_renew 2 = .ok (.putfield 19, 3) := by decide +kernel
theorem dX5_renew_5 : decode cX5_renew 5 = .ok (.aload_n 0, 1) := by decide +kernel
theorem dX5_renew_6 : decode cX5_renew 6 = .ok (.iload_n 2, 1) := by decide +kernel
theorem dX5_renew_7 : decode cX5_renew 7 = .ok (.putfield 15, 3) := by decide +kernel
theorem dX5_renew_10 : decode cX5_renew 10 = .ok (.iconst 0, 1) := by decide +kernel
theorem dX5_renew_11 : decode cX5_renew 11 = .ok (.istore_n 3, 1) := by decide +kernel
theorem dX5_renew_12 : decode cX5_renew 12 = .ok (.iload_n 3, 1) := by decide +kernel
theorem dX5_renew_13 : decode cX5_renew 13 = .ok (.bipush 60, 2) := by decide +kernel
theorem dX5_renew_15 : decode cX5_renew 15 = .ok (.if_icmp .ge 16, 3) := by decide +kernel
theorem dX5_renew_18 : decode cX5_renew 18 = .ok (.aload_n 0, 1) := by decide +kernel
theorem dX5_renew_19 : decode cX5_renew 19 = .ok (.getfield 9, 3) := by decide +kernel
theorem dX5_renew_22 : decode cX5_renew 22 = .ok (.iload_n 3, 1) := by decide +kernel
theorem dX5_renew_23 : decode cX5_renew 23 = .ok (.iconst 0, 1) := by decide +kernel
theorem dX5_renew_24 : decode cX5_renew 24 = .ok (.iastore, 1) := by decide +kernel
theorem dX5_renew_25 : decode cX5_renew 25 = .ok (.iinc 3 1, 3) := by decide +kernel
theorem dX5_renew_28 : decode cX5_renew 28 = .ok (.goto (-16), 3) := by decide +kernel
theorem dX5_renew_31 : decode cX5_renew 31 = .ok (.return_, 1) := by decide +kernel
theorem dX5_dropRow_0 : decode cX5_dropRow 0 = .ok (.aload_n 0, 1) := by decide +kernel
theorem dX5_dropRow_1 : decode cX5_dropRow 1 = .ok (.invokevirtual 22, 3) := by decide +kernel
theorem dX5_dropRow_4 : decode cX5_dropRow 4 = .ok (.ifCond .ne 7, 3) := by decide +kernel
theorem dX5_dropRow_7 : decode cX5_dropRow 7 = .ok (.iconst 1, 1) := by decide +kernel
theorem dX5_dropRow_8 : decode cX5_dropRow 8 = .ok (.goto 4, 3) := by decide +kernel
theorem dX5_dropRow_11 : decode cX5_dropRow 11 = .ok (.iconst 0, 1) := by decide +kernel
theorem dX5_dropRow_12 : decode cX5_dropRow 12 = .ok (.istore_n 1, 1) := by decide +kernel
theorem dX5_dropRow_13 : decode cX5_dropRow 13 = .ok (.aload_n 0, 1) := by decide +kernel
theorem dX5_dropRow_14 : decode cX5_dropRow 14 = .ok (.iconst (-1), 1) := by decide +kernel
theorem dX5_dropRow_15 : decode cX5_dropRow 15 = .ok (.putfield 15, 3) := by decide +kernel
theorem dX5_dropRow_18 : decode cX5_dropRow 18 = .ok (.iload_n 1, 1) := by decide +kernel
theorem dX5_dropRow_19 : decode cX5_dropRow 19 = .ok (.ireturn, 1) := by decide +kernel
theorem dX5_hasCells_0 : decode cX5_hasCells 0 = .ok (.iconst 0, 1) := by decide +kernel
theorem dX5_hasCells_1 : decode cX5_hasCells 1 = .ok (.iload_n 1, 1) := by decide +kernel
theorem dX5_hasCells_2 : decode cX5_hasCells 2 = .ok (.if_icmp .gt 30, 3) := by decide +kernel
theorem dX5_hasCells_5 : decode cX5_hasCells 5 = .ok (.iconst 0, 1) := by decide +kernel
theorem dX5_hasCells_6 : decode cX5_hasCells 6 = .ok (.iload_n 2, 1) := by decide +kernel
theorem dX5_hasCells_7 : decode cX5_hasCells 7 = .ok (.if_icmp .gt 25, 3) := by decide +kernel
theorem dX5_hasCells_10 : decode cX5_hasCells 10 = .ok (.iload_n 1, 1) := by decide +kernel
theorem dX5_hasCells_11 : decode cX5_hasCells 11 = .ok (.aload_n 0, 1) := by decide +kernel
theorem dX5_hasCells_12 : decode cX5_hasCells 12 = .ok (.getfield 15, 3) := by decide +kernel
theorem dX5_hasCells_15 : decode cX5_hasCells 15 = .ok (.if_icmp .gt 17, 3) := by decide +kernel
theorem dX5_hasCells_18 : decode cX5_hasCells 18 = .ok (.iload_n 2, 1) := by decide +kernel
theorem dX5_hasCells_19 : decode cX5_hasCells 19 = .ok (.aload_n 0, 1) := by decide +kernel
theorem dX5_hasCells_20 : decode cX5_hasCells 20 = .ok (.getfield 15, 3) := by decide +kernel
theorem dX5_hasCells_23 : decode cX5_hasCells 23 = .ok (.iload_n 1, 1) := by decide +kernel
theorem dX5_hasCells_24 : decode cX5_hasCells 24 = .ok (.isub, 1) := by decide +kernel
theorem dX5_hasCells_25 : decode cX5_hasCells 25 = .ok (.if_icmp .gt 7, 3) := by decide +kernel
theorem dX5_hasCells_28 : decode cX5_hasCells 28 = .ok (.iconst 1, 1) := by decide +kernel
theorem dX5_hasCells_29 : decode cX5_hasCells 29 = .ok (.goto 4, 3) := by decide +kernel
theorem dX5_hasCells_32 : decode cX5_hasCells 32 = .ok (.iconst 0, 1) := by decide +kernel
theorem dX5_hasCells_33 : decode cX5_hasCells 33 = .ok (.ireturn, 1) := by decide +kernel
theorem dX5_faultOfCells_0 : decode cX5_faultOfCells 0 = .ok (.aload_n 0, 1) := by decide +kernel
theorem dX5_faultOfCells_1 : decode cX5_faultOfCells 1 = .ok (.invokevirtual 22, 3) := by decide +kernel
theorem dX5_faultOfCells_4 : decode cX5_faultOfCells 4 = .ok (.ifCond .eq 5, 3) := by decide +kernel
theorem dX5_faultOfCells_7 : decode cX5_faultOfCells 7 = .ok (.iconst 1, 1) := by decide +kernel
theorem dX5_faultOfCells_8 : decode cX5_faultOfCells 8 = .ok (.ireturn, 1) := by decide +kernel
theorem dX5_faultOfCells_9 : decode cX5_faultOfCells 9 = .ok (.aload_n 0, 1) := by decide +kernel
theorem dX5_faultOfCells_10 : decode cX5_faultOfCells 10 = .ok (.getfield 19, 3) := by decide +kernel
theorem dX5_faultOfCells_13 : decode cX5_faultOfCells 13 = .ok (.iload_n 1, 1) := by decide +kernel
theorem dX5_faultOfCells_14 : decode cX5_faultOfCells 14 = .ok (.if_icmp .eq 5, 3) := by decide +kernel
theorem dX5_faultOfCells_17 : decode cX5_faultOfCells 17 = .ok (.iconst 2, 1) := by decide +kernel
theorem dX5_faultOfCells_18 : decode cX5_faultOfCells 18 = .ok (.ireturn, 1) := by decide +kernel
theorem dX5_faultOfCells_19 : decode cX5_faultOfCells 19 = .ok (.iload_n 3, 1) := by decide +kernel
theorem dX5_faultOfCells_20 : decode cX5_faultOfCells 20 = .ok (.ifCond .ge 5, 3) := by decide +kernel
theorem dX5_faultOfCells_23 : decode cX5_faultOfCells 23 = .ok (.iconst 4, 1) := by decide +kernel
theorem dX5_faultOfCells_24 : decode cX5_faultOfCells 24 = .ok (.ireturn, 1) := by decide +kernel
theorem dX5_faultOfCells_25 : decode cX5_faultOfCells 25 = .ok (.aload_n 0, 1) := by decide +kernel
theorem dX5_faultOfCells_26 : decode cX5_faultOfCells 26 = .ok (.iload_n 2, 1) := by decide +kernel
theorem dX5_faultOfCells_27 : decode cX5_faultOfCells 27 = .ok (.iload_n 3, 1) := by decide +kernel
theorem dX5_faultOfCells_28 : decode cX5_faultOfCells 28 = .ok (.invokevirtual 26, 3) := by decide +kernel
theorem dX5_faultOfCells_31 : decode cX5_faultOfCells 31 = .ok (.ifCond .eq 7, 3) := by decide +kernel
theorem dX5_faultOfCells_34 : decode cX5_faultOfCells 34 = .ok (.iconst 0, 1) := by decide +kernel
theorem dX5_faultOfCells_35 : decode cX5_faultOfCells 35 = .ok (.goto 4, 3) := by decide +kernel
theorem dX5_faultOfCells_38 : decode cX5_faultOfCells 38 = .ok (.iconst 3, 1) := by decide +kernel
theorem dX5_faultOfCells_39 : decode cX5_faultOfCells 39 = .ok (.ireturn, 1) := by decide +kernel
theorem dX5_read_0 : decode cX5_read 0 = .ok (.iload_n 1, 1) := by decide +kernel
theorem dX5_read_1 : decode cX5_read 1 = .ok (.aload_n 0, 1) := by decide +kernel
theorem dX5_read_2 : decode cX5_read 2 = .ok (.getfield 15, 3) := by decide +kernel
theorem dX5_read_5 : decode cX5_read 5 = .ok (.invokestatic 30, 3) := by decide +kernel
theorem dX5_read_8 : decode cX5_read 8 = .ok (.ifCond .eq 12, 3) := by decide +kernel
theorem dX5_read_11 : decode cX5_read 11 = .ok (.aload_n 0, 1) := by decide +kernel
theorem dX5_read_12 : decode cX5_read 12 = .ok (.getfield 9, 3) := by decide +kernel
theorem dX5_read_15 : decode cX5_read 15 = .ok (.iload_n 1, 1) := by decide +kernel
theorem dX5_read_16 : decode cX5_read 16 = .ok (.iaload, 1) := by decide +kernel
theorem dX5_read_17 : decode cX5_read 17 = .ok (.goto 4, 3) := by decide +kernel
theorem dX5_read_20 : decode cX5_read 20 = .ok (.iconst 0, 1) := by decide +kernel
theorem dX5_read_21 : decode cX5_read 21 = .ok (.ireturn, 1) := by decide +kernel
theorem dX5_write_0 : decode cX5_write 0 = .ok (.iload_n 1, 1) := by decide +kernel
theorem dX5_write_1 : decode cX5_write 1 = .ok (.aload_n 0, 1) := by decide +kernel
theorem dX5_write_2 : decode cX5_write 2 = .ok (.getfield 15, 3) := by decide +kernel
theorem dX5_write_5 : decode cX5_write 5 = .ok (.invokestatic 30, 3) := by decide +kernel
theorem dX5_write_8 : decode cX5_write 8 = .ok (.ifCond .eq 35, 3) := by decide +kernel
theorem dX5_write_11 : decode cX5_write 11 = .ok (.aload_n 0, 1) := by decide +kernel
theorem dX5_write_12 : decode cX5_write 12 = .ok (.getfield 9, 3) := by decide +kernel
theorem dX5_write_15 : decode cX5_write 15 = .ok (.iload_n 1, 1) := by decide +kernel
theorem dX5_write_16 : decode cX5_write 16 = .ok (.aload_n 0, 1) := by decide +kernel
theorem dX5_write_17 : decode cX5_write 17 = .ok (.getfield 19, 3) := by decide +kernel
theorem dX5_write_20 : decode cX5_write 20 = .ok (.ifCond .ne 8, 3) := by decide +kernel
theorem dX5_write_23 : decode cX5_write 23 = .ok (.iload_n 2, 1) := by decide +kernel
theorem dX5_write_24 : decode cX5_write 24 = .ok (.i2b, 1) := by decide +kernel
theorem dX5_write_25 : decode cX5_write 25 = .ok (.goto 17, 3) := by decide +kernel
theorem dX5_write_28 : decode cX5_write 28 = .ok (.aload_n 0, 1) := by decide +kernel
theorem dX5_write_29 : decode cX5_write 29 = .ok (.getfield 19, 3) := by decide +kernel
theorem dX5_write_32 : decode cX5_write 32 = .ok (.iconst 1, 1) := by decide +kernel
theorem dX5_write_33 : decode cX5_write 33 = .ok (.if_icmp .ne 8, 3) := by decide +kernel
theorem dX5_write_36 : decode cX5_write 36 = .ok (.iload_n 2, 1) := by decide +kernel
theorem dX5_write_37 : decode cX5_write 37 = .ok (.i2s, 1) := by decide +kernel
theorem dX5_write_38 : decode cX5_write 38 = .ok (.goto 4, 3) := by decide +kernel
theorem dX5_write_41 : decode cX5_write 41 = .ok (.iload_n 2, 1) := by decide +kernel
theorem dX5_write_42 : decode cX5_write 42 = .ok (.iastore, 1) := by decide +kernel
theorem dX5_write_43 : decode cX5_write 43 = .ok (.return_, 1) := by decide +kernel
theorem dX5_takeCells_0 : decode cX5_takeCells 0 = .ok (.aload_n 1, 1) := by decide +kernel
theorem dX5_takeCells_1 : decode cX5_takeCells 1 = .ok (.iload_n 2, 1) := by decide +kernel
theorem dX5_takeCells_2 : decode cX5_takeCells 2 = .ok (.iload 4, 2) := by decide +kernel
theorem dX5_takeCells_4 : decode cX5_takeCells 4 = .ok (.invokevirtual 26, 3) := by decide +kernel
theorem dX5_takeCells_7 : decode cX5_takeCells 7 = .ok (.ifCond .eq 28, 3) := by decide +kernel
theorem dX5_takeCells_10 : decode cX5_takeCells 10 = .ok (.aload_n 0, 1) := by decide +kernel
theorem dX5_takeCells_11 : decode cX5_takeCells 11 = .ok (.iload_n 3, 1) := by decide +kernel
theorem dX5_takeCells_12 : decode cX5_takeCells 12 = .ok (.iload 4, 2) := by decide +kernel
theorem dX5_takeCells_14 : decode cX5_takeCells 14 = .ok (.invokevirtual 26, 3) := by decide +kernel
theorem dX5_takeCells_17 : decode cX5_takeCells 17 = .ok (.ifCond .eq 18, 3) := by decide +kernel
theorem dX5_takeCells_20 : decode cX5_takeCells 20 = .ok (.aload_n 1, 1) := by decide +kernel
theorem dX5_takeCells_21 : decode cX5_takeCells 21 = .ok (.getfield 9, 3) := by decide +kernel
theorem dX5_takeCells_24 : decode cX5_takeCells 24 = .ok (.iload_n 2, 1) := by decide +kernel
theorem dX5_takeCells_25 : decode cX5_takeCells 25 = .ok (.aload_n 0, 1) := by decide +kernel
theorem dX5_takeCells_26 : decode cX5_takeCells 26 = .ok (.getfield 9, 3) := by decide +kernel
theorem dX5_takeCells_29 : decode cX5_takeCells 29 = .ok (.iload_n 3, 1) := by decide +kernel
theorem dX5_takeCells_30 : decode cX5_takeCells 30 = .ok (.iload 4, 2) := by decide +kernel
theorem dX5_takeCells_32 : decode cX5_takeCells 32 = .ok (.invokestatic 33, 3) := by decide +kernel
theorem dX5_takeCells_35 : decode cX5_takeCells 35 = .ok (.return_, 1) := by decide +kernel
theorem dX6_init_0 : decode cX6_init 0 = .ok (.aload_n 0, 1) := by decide +kernel
theorem dX6_init_1 : decode cX6_init 1 = .ok (.invokespecial 3, 3) := by decide +kernel
theorem dX6_init_4 : decode cX6_init 4 = .ok (.aload_n 0, 1) := by decide +kernel
theorem dX6_init_5 : decode cX6_init 5 = .ok (.bipush 40, 2) := by decide +kernel
theorem dX6_init_7 : decode cX6_init 7 = .ok (.newarray .int, 2) := by decide +kernel
theorem dX6_init_9 : decode cX6_init 9 = .ok (.putfield 9, 3) := by decide +kernel
theorem dX6_init_12 : decode cX6_init 12 = .ok (.return_, 1) := by decide +kernel
theorem dX6_fill_0 : decode cX6_fill 0 = .ok (.aload_n 0, 1) := by decide +kernel
theorem dX6_fill_1 : decode cX6_fill 1 = .ok (.iload 4, 2) := by decide +kernel
theorem dX6_fill_3 : decode cX6_fill 3 = .ok (.putfield 15, 3) := by decide +kernel
theorem dX6_fill_6 : decode cX6_fill 6 = .ok (.iconst 0, 1) := by decide +kernel
theorem dX6_fill_7 : decode cX6_fill 7 = .ok (.istore 5, 2) := by decide +kernel
theorem dX6_fill_9 : decode cX6_fill 9 = .ok (.iconst 0, 1) := by decide +kernel
theorem dX6_fill_10 : decode cX6_fill 10 = .ok (.istore 6, 2) := by decide +kernel
theorem dX6_fill_12 : decode cX6_fill 12 = .ok (.iload 6, 2) := by decide +kernel
theorem dX6_fill_14 : decode cX6_fill 14 = .ok (.iload 4, 2) := by decide +kernel
theorem dX6_fill_16 : decode cX6_fill 16 = .ok (.aload_n 1, 1) := by decide +kernel
theorem dX6_fill_17 : decode cX6_fill 17 = .ok (.getfield 19, 3) := by decide +kernel
theorem dX6_fill_20 : decode cX6_fill 20 = .ok (.imul, 1) := by decide +kernel
theorem dX6_fill_21 : decode cX6_fill 21 = .ok (.if_icmp .ge 82, 3) := by decide +kernel
theorem dX6_fill_24 : decode cX6_fill 24 = .ok (.iload 6, 2) := by decide +kernel
theorem dX6_fill_26 : decode cX6_fill 26 = .ok (.aload_n 0, 1) := by decide +kernel
theorem dX6_fill_27 : decode cX6_fill 27 = .ok (.getfield 9, 3) := by decide +kernel
theorem dX6_fill_30 : decode cX6_fill 30 = .ok (.arraylength, 1) := by decide +kernel
theorem dX6_fill_31 : decode cX6_fill 31 = .ok (.if_icmp .ge 72, 3) := by decide +kernel
theorem dX6_fill_34 : decode cX6_fill 34 = .ok (.aload_n 2, 1) := by decide +kernel
theorem dX6_fill_35 : decode cX6_fill 35 = .ok (.iload_n 3, 1) := by decide +kernel
theorem dX6_fill_36 : decode cX6_fill 36 = .ok (.iload 6, 2) := by decide +kernel
theorem dX6_fill_38 : decode cX6_fill 38 = .ok (.iadd, 1) := by decide +kernel
theorem dX6_fill_39 : decode cX6_fill 39 = .ok (.invokevirtual 24, 3) := by decide +kernel
theorem dX6_fill_42 : decode cX6_fill 42 = .ok (.istore 7, 2) := by decide +kernel
theorem dX6_fill_44 : decode cX6_fill 44 = .ok (.iload 7, 2) := by decide +kernel
theorem dX6_fill_46 : decode cX6_fill 46 = .ok (.sipush 128, 3) := by decide +kernel
theorem dX6_fill_49 : decode cX6_fill 49 = .ok (.invokestatic 30, 3) := by decide +kernel
theorem dX6_fill_52 : decode cX6_fill 52 = .ok (.ifCond .ne 5, 3) := by decide +kernel
theorem dX6_fill_55 : decode cX6_fill 55 = .ok (.iconst 0, 1) := by decide +kernel
theorem dX6_fill_56 : decode cX6_fill 56 = .ok (.ireturn, 1) := by decide +kernel
theorem dX6_fill_57 : decode cX6_fill 57 = .ok (.aload_n 0, 1) := by decide +kernel
theorem dX6_fill_58 : decode cX6_fill 58 = .ok (.getfield 9, 3) := by decide +kernel
theorem dX6_fill_61 : decode cX6_fill 61 = .ok (.iload 6, 2) := by decide +kernel
theorem dX6_fill_63 : decode cX6_fill 63 = .ok (.aload_n 1, 1) := by decide +kernel
theorem dX6_fill_64 : decode cX6_fill 64 = .ok (.getfield 34, 3) := by decide +kernel
theorem dX6_fill_67 : decode cX6_fill 67 = .ok (.iload 5, 2) := by decide +kernel
theorem dX6_fill_69 : decode cX6_fill 69 = .ok (.aaload, 1) := by decide +kernel
theorem dX6_fill_70 : decode cX6_fill 70 = .ok (.iload 7, 2) := by decide +kernel
theorem dX6_fill_72 : decode cX6_fill 72 = .ok (.invokevirtual 38, 3) := by decide +kernel
theorem dX6_fill_75 : decode cX6_fill 75 = .ok (.iastore, 1) := by decide +kernel
theorem dX6_fill_76 : decode cX6_fill 76 = .ok (.iload 5, 2) := by decide +kernel
theorem dX6_fill_78 : decode cX6_fill 78 = .ok (.iconst 1, 1) := by decide +kernel
theorem dX6_fill_79 : decode cX6_fill 79 = .ok (.iadd, 1) := by decide +kernel
theorem dX6_fill_80 : decode cX6_fill 80 = .ok (.aload_n 1, 1) := by decide +kernel
theorem dX6_fill_81 : decode cX6_fill 81 = .ok (.getfield 19, 3) := by decide +kernel
theorem dX6_fill_84 : decode cX6_fill 84 = .ok (.if_icmp .ge 10, 3) := by decide +kernel
theorem dX6_fill_87 : decode cX6_fill 87 = .ok (.iload 5, 2) := by decide +kernel
theorem dX6_fill_89 : decode cX6_fill 89 = .ok (.iconst 1, 1) := by decide +kernel
theorem dX6_fill_90 : decode cX6_fill 90 = .ok (.iadd, 1) := by decide +kernel
theorem dX6_fill_91 : decode cX6_fill 91 = .ok (.goto 4, 3) := by decide +kernel
theorem dX6_fill_94 : decode cX6_fill 94 = .ok (.iconst 0, 1) := by decide +kernel
theorem dX6_fill_95 : decode cX6_fill 95 = .ok (.istore 5, 2) := by decide +kernel
theorem dX6_fill_97 : decode cX6_fill 97 = .ok (.iinc 6 1, 3) := by decide +kernel
theorem dX6_fill_100 : decode cX6_fill 100 = .ok (.goto (-88), 3) := by decide +kernel
theorem dX6_fill_103 : decode cX6_fill 103 = .ok (.iconst 1, 1) := by decide +kernel
theorem dX6_fill_104 : decode cX6_fill 104 = .ok (.ireturn, 1) := by decide +kernel
theorem dX6_begins_0 : decode cX6_begins 0 = .ok (.iconst 0, 1) := by decide +kernel
theorem dX6_begins_1 : decode cX6_begins 1 = .ok (.istore 4, 2) := by decide +kernel
theorem dX6_begins_3 : decode cX6_begins 3 = .ok (.bipush (-9), 2) := by decide +kernel
theorem dX6_begins_5 : decode cX6_begins 5 = .ok (.istore 5, 2) := by decide +kernel
theorem dX6_begins_7 : decode cX6_begins 7 = .ok (.bipush (-9), 2) := by decide +kernel
theorem dX6_begins_9 : decode cX6_begins 9 = .ok (.istore 6, 2) := by decide +kernel
theorem dX6_begins_11 : decode cX6_begins 11 = .ok (.iconst 0, 1) := by decide +kernel
theorem dX6_begins_12 : decode cX6_begins 12 = .ok (.istore 7, 2) := by decide +kernel
theorem dX6_begins_14 : decode cX6_begins 14 = .ok (.iload 7, 2) := by decide +kernel
theorem dX6_begins_16 : decode cX6_begins 16 = .ok (.aload_n 1, 1) := by decide +kernel
theorem dX6_begins_17 : decode cX6_begins 17 = .ok (.getfield 43, 3) := by decide +kernel
theorem dX6_begins_20 : decode cX6_begins 20 = .ok (.if_icmp .gt 41, 3) := by decide +kernel
theorem dX6_begins_23 : decode cX6_begins 23 = .ok (.aload_n 0, 1) := by decide +kernel
theorem dX6_begins_24 : decode cX6_begins 24 = .ok (.aload_n 1, 1) := by decide +kernel
theorem dX6_begins_25 : decode cX6_begins 25 = .ok (.iload 7, 2) := by decide +kernel
theorem dX6_begins_27 : decode cX6_begins 27 = .ok (.iload_n 2, 1) := by decide +kernel
theorem dX6_begins_28 : decode cX6_begins 28 = .ok (.invokevirtual 46, 3) := by decide +kernel
theorem dX6_begins_31 : decode cX6_begins 31 = .ok (.ifCond .eq 24, 3) := by decide +kernel
theorem dX6_begins_34 : decode cX6_begins 34 = .ok (.iload 4, 2) := by decide +kernel
theorem dX6_begins_36 : decode cX6_begins 36 = .ok (.ifCond .ne 8, 3) := by decide +kernel
theorem dX6_begins_39 : decode cX6_begins 39 = .ok (.iload 7, 2) := by decide +kernel
theorem dX6_begins_41 : decode cX6_begins 41 = .ok (.goto 5, 3) := by decide +kernel
theorem dX6_begins_44 : decode cX6_begins 44 = .ok (.iload 5, 2) := by decide +kernel
theorem dX6_begins_46 : decode cX6_begins 46 = .ok (.istore 5, 2) := by decide +kernel
theorem dX6_begins_48 : decode cX6_begins 48 = .ok (.iload 7, 2) := by decide +kernel
theorem dX6_begins_50 : decode cX6_begins 50 = .ok (.istore 6, 2) := by decide +kernel
theorem dX6_begins_52 : decode cX6_begins 52 = .ok (.iinc 4 1, 3) := by decide +kernel
theorem dX6_begins_55 : decode cX6_begins 55 = .ok (.iinc 7 1, 3) := by decide +kernel
theorem dX6_begins_58 : decode cX6_begins 58 = .ok (.goto (-44), 3) := by decide +kernel
theorem dX6_begins_61 : decode cX6_begins 61 = .ok (.iload_n 3, 1) := by decide +kernel
theorem dX6_begins_62 : decode cX6_begins 62 = .ok (.iload 4, 2) := by decide +kernel
theorem dX6_begins_64 : decode cX6_begins 64 = .ok (.iload 5, 2) := by decide +kernel
theorem dX6_begins_66 : decode cX6_begins 66 = .ok (.iload 6, 2) := by decide +kernel
theorem dX6_begins_68 : decode cX6_begins 68 = .ok (.invokestatic 50, 3) := by decide +kernel
theorem dX6_begins_71 : decode cX6_begins 71 = .ok (.ireturn, 1) := by decide +kernel
theorem dX6_isBegin_0 : decode cX6_isBegin 0 = .ok (.iload_n 2, 1) := by decide +kernel
theorem dX6_isBegin_1 : decode cX6_isBegin 1 = .ok (.istore 4, 2) := by decide +kernel
theorem dX6_isBegin_3 : decode cX6_isBegin 3 = .ok (.iconst 0, 1) := by decide +kernel
theorem dX6_isBegin_4 : decode cX6_isBegin 4 = .ok (.istore 5, 2) := by decide +kernel
theorem dX6_isBegin_6 : decode cX6_isBegin 6 = .ok (.iload 5, 2) := by decide +kernel
theorem dX6_isBegin_8 : decode cX6_isBegin 8 = .ok (.aload_n 0, 1) := by decide +kernel
theorem dX6_isBegin_9 : decode cX6_isBegin 9 = .ok (.getfield 15, 3) := by decide +kernel
theorem dX6_isBegin_12 : decode cX6_isBegin 12 = .ok (.if_icmp .ge 41, 3) := by decide +kernel
theorem dX6_isBegin_15 : decode cX6_isBegin 15 = .ok (.iload 4, 2) := by decide +kernel
theorem dX6_isBegin_17 : decode cX6_isBegin 17 = .ok (.aload_n 1, 1) := by decide +kernel
theorem dX6_isBegin_18 : decode cX6_isBegin 18 = .ok (.getfield 43, 3) := by decide +kernel
theorem dX6_isBegin_21 : decode cX6_isBegin 21 = .ok (.if_icmp .gt 18, 3) := by decide +kernel
theorem dX6_isBegin_24 : decode cX6_isBegin 24 = .ok (.aload_n 0, 1) := by decide +kernel
theorem dX6_isBegin_25 : decode cX6_isBegin 25 = .ok (.aload_n 1, 1) := by decide +kernel
theorem dX6_isBegin_26 : decode cX6_isBegin 26 = .ok (.getfield 19, 3) := by decide +kernel
theorem dX6_isBegin_29 : decode cX6_isBegin 29 = .ok (.iload 5, 2) := by decide +kernel
theorem dX6_isBegin_31 : decode cX6_isBegin 31 = .ok (.iload 4, 2) := by decide +kernel
theorem dX6_isBegin_33 : decode cX6_isBegin 33 = .ok (.invokevirtual 54, 3) := by decide +kernel
theorem dX6_isBegin_36 : decode cX6_isBegin 36 = .ok (.ifCond .ne 5, 3) := by decide +kernel
theorem dX6_isBegin_39 : decode cX6_isBegin 39 = .ok (.iconst 0, 1) := by decide +kernel
theorem dX6_isBegin_40 : decode cX6_isBegin 40 = .ok (.ireturn, 1) := by decide +kernel
theorem dX6_isBegin_41 : decode cX6_isBegin 41 = .ok (.iload 4, 2) := by decide +kernel
theorem dX6_isBegin_43 : decode cX6_isBegin 43 = .ok (.iload_n 3, 1) := by decide +kernel
theorem dX6_isBegin_44 : decode cX6_isBegin 44 = .ok (.iadd, 1) := by decide +kernel
theorem dX6_isBegin_45 : decode cX6_isBegin 45 = .ok (.istore 4, 2) := by decide +kernel
theorem dX6_isBegin_47 : decode cX6_isBegin 47 = .ok (.iinc 5 1, 3) := by decide +kernel
theorem dX6_isBegin_50 : decode cX6_isBegin 50 = .ok (.goto (-44), 3) := by decide +kernel
theorem dX6_isBegin_53 : decode cX6_isBegin 53 = .ok (.iconst 1, 1) := by decide +kernel
theorem dX6_isBegin_54 : decode cX6_isBegin 54 = .ok (.ireturn, 1) := by decide +kernel
theorem dX6_isRow_0 : decode cX6_isRow 0 = .ok (.iload_n 3, 1) := by decide +kernel
theorem dX6_isRow_1 : decode cX6_isRow 1 = .ok (.istore 4, 2) := by decide +kernel
theorem dX6_isRow_3 : decode cX6_isRow 3 = .ok (.iload_n 1, 1) := by decide +kernel
theorem dX6_isRow_4 : decode cX6_isRow 4 = .ok (.iconst 1, 1) := by decide +kernel
theorem dX6_isRow_5 : decode cX6_isRow 5 = .ok (.isub, 1) := by decide +kernel
theorem dX6_isRow_6 : decode cX6_isRow 6 = .ok (.istore 5, 2) := by decide +kernel
theorem dX6_isRow_8 : decode cX6_isRow 8 = .ok (.iload 5, 2) := by decide +kernel
theorem dX6_isRow_10 : decode cX6_isRow 10 = .ok (.ifCond .lt 57, 3) := by decide +kernel
theorem dX6_isRow_13 : decode cX6_isRow 13 = .ok (.iload_n 2, 1) := by decide +kernel
theorem dX6_isRow_14 : decode cX6_isRow 14 = .ok (.iload_n 1, 1) := by decide +kernel
theorem dX6_isRow_15 : decode cX6_isRow 15 = .ok (.imul, 1) := by decide +kernel
theorem dX6_isRow_16 : decode cX6_isRow 16 = .ok (.iload 5, 2) := by decide +kernel
theorem dX6_isRow_18 : decode cX6_isRow 18 = .ok (.iadd, 1) := by decide +kernel
theorem dX6_isRow_19 : decode cX6_isRow 19 = .ok (.istore 6, 2) := by decide +kernel
theorem dX6_isRow_21 : decode cX6_isRow 21 = .ok (.iload 6, 2) := by decide +kernel
theorem dX6_isRow_23 : decode cX6_isRow 23 = .ok (.aload_n 0, 1) := by decide +kernel
theorem dX6_isRow_24 : decode cX6_isRow 24 = .ok (.getfield 9, 3) := by decide +kernel
theorem dX6_isRow_27 : decode cX6_isRow 27 = .ok (.arraylength, 1) := by decide +kernel
theorem dX6_isRow_28 : decode cX6_isRow 28 = .ok (.invokestatic 30, 3) := by decide +kernel
theorem dX6_isRow_31 : decode cX6_isRow 31 = .ok (.ifCond .eq 21, 3) := by decide +kernel
theorem dX6_isRow_34 : decode cX6_isRow 34 = .ok (.aload_n 0, 1) := by decide +kernel
theorem dX6_isRow_35 : decode cX6_isRow 35 = .ok (.getfield 9, 3) := by decide +kernel
theorem dX6_isRow_38 : decode cX6_isRow 38 = .ok (.iload 6, 2) := by decide +kernel
theorem dX6_isRow_40 : decode cX6_isRow 40 = .ok (.iaload, 1) := by decide +kernel
theorem dX6_isRow_41 : decode cX6_isRow 41 = .ok (.iload 4, 2) := by decide +kernel
theorem dX6_isRow_43 : decode cX6_isRow 43 = .ok (.bipush 10, 2) := by decide +kernel
theorem dX6_isRow_45 : decode cX6_isRow 45 = .ok (.irem, 1) := by decide +kernel
theorem dX6_isRow_46 : decode cX6_isRow 46 = .ok (.ishr, 1) := by decide +kernel
theorem dX6_isRow_47 : decode cX6_isRow 47 = .ok (.iconst 1, 1) := by decide +kernel
theorem dX6_isRow_48 : decode cX6_isRow 48 = .ok (.iand, 1) := by decide +kernel
theorem dX6_isRow_49 : decode cX6_isRow 49 = .ok (.ifCond .ne 5, 3) := by decide +kernel
theorem dX6_isRow_52 : decode cX6_isRow 52 = .ok (.iconst 0, 1) := by decide +kernel
theorem dX6_isRow_53 : decode cX6_isRow 53 = .ok (.ireturn, 1) := by decide +kernel
theorem dX6_isRow_54 : decode cX6_isRow 54 = .ok (.iload 4, 2) := by decide +kernel
theorem dX6_isRow_56 : decode cX6_isRow 56 = .ok (.bipush 10, 2) := by decide +kernel
theorem dX6_isRow_58 : decode cX6_isRow 58 = .ok (.idiv, 1) := by decide +kernel
theorem dX6_isRow_59 : decode cX6_isRow 59 = .ok (.istore 4, 2) := by decide +kernel
theorem dX6_isRow_61 : decode cX6_isRow 61 = .ok (.iinc 5 (-1), 3) := by decide +kernel
theorem dX6_isRow_64 : decode cX6_isRow 64 = .ok (.goto (-56), 3) := by decide +kernel
theorem dX6_isRow_67 : decode cX6_isRow 67 = .ok (.iconst 1, 1) := by decide +kernel
theorem dX6_isRow_68 : decode cX6_isRow 68 = .ok (.ireturn, 1) := by decide +kernel
theorem dX7_firstFault_0 : decode cX7_firstFault 0 = .ok (.iconst 0, 1) := by decide +kernel
theorem dX7_firstFault_1 : decode cX7_firstFault 1 = .ok (.istore_n 3, 1) := by decide +kernel
theorem dX7_firstFault_2 : decode cX7_firstFault 2 = .ok (.iload_n 3, 1) := by decide +kernel
theorem dX7_firstFault_3 : decode cX7_firstFault 3 = .ok (.iload_n 2, 1) := by decide +kernel
theorem dX7_firstFault_4 : decode cX7_firstFault 4 = .ok (.if_icmp .ge 20, 3) := by decide +kernel
theorem dX7_firstFault_7 : decode cX7_firstFault 7 = .ok (.aload_n 0, 1) := by decide +kernel
theorem dX7_firstFault_8 : decode cX7_firstFault 8 = .ok (.iload_n 1, 1) := by decide +kernel
theorem dX7_firstFault_9 : decode cX7_firstFault 9 = .ok (.iload_n 3, 1) := by decide +kernel
theorem dX7_firstFault_10 : decode cX7_firstFault 10 = .ok (.invokestatic 11, 3) := by decide +kernel
theorem dX7_firstFault_13 : decode cX7_firstFault 13 = .ok (.ifCond .ne 5, 3) := by decide +kernel
theorem dX7_firstFault_16 : decode cX7_firstFault 16 = .ok (.iload_n 3, 1) := by decide +kernel
theorem dX7_firstFault_17 : decode cX7_firstFault 17 = .ok (.ireturn, 1) := by decide +kernel
theorem dX7_firstFault_18 : decode cX7_firstFault 18 = .ok (.iinc 3 1, 3) := by decide +kernel
theorem dX7_firstFault_21 : decode cX7_firstFault 21 = .ok (.goto (-19), 3) := by decide +kernel
theorem dX7_firstFault_24 : decode cX7_firstFault 24 = .ok (.iload_n 2, 1) := by decide +kernel
theorem dX7_firstFault_25 : decode cX7_firstFault 25 = .ok (.bipush 11, 2) := by decide +kernel
theorem dX7_firstFault_27 : decode cX7_firstFault 27 = .ok (.if_icmp .lt 16, 3) := by decide +kernel
theorem dX7_firstFault_30 : decode cX7_firstFault 30 = .ok (.iload_n 2, 1) := by decide +kernel
theorem dX7_firstFault_31 : decode cX7_firstFault 31 = .ok (.iconst 3, 1) := by decide +kernel
theorem dX7_firstFault_32 : decode cX7_firstFault 32 = .ok (.isub, 1) := by decide +kernel
theorem dX7_firstFault_33 : decode cX7_firstFault 33 = .ok (.bipush 8, 2) := by decide +kernel
theorem dX7_firstFault_35 : decode cX7_firstFault 35 = .ok (.irem, 1) := by decide +kernel
theorem dX7_firstFault_36 : decode cX7_firstFault 36 = .ok (.ifCond .ne 7, 3) := by decide +kernel
theorem dX7_firstFault_39 : decode cX7_firstFault 39 = .ok (.iconst 1, 1) := by decide +kernel
theorem dX7_firstFault_40 : decode cX7_firstFault 40 = .ok (.goto 4, 3) := by decide +kernel
theorem dX7_firstFault_43 : decode cX7_firstFault 43 = .ok (.iconst 0, 1) := by decide +kernel
theorem dX7_firstFault_44 : decode cX7_firstFault 44 = .ok (.istore_n 3, 1) := by decide +kernel
theorem dX7_firstFault_45 : decode cX7_firstFault 45 = .ok (.iload_n 3, 1) := by decide +kernel
theorem dX7_firstFault_46 : decode cX7_firstFault 46 = .ok (.ifCond .eq 7, 3) := by decide +kernel
theorem dX7_firstFault_49 : decode cX7_firstFault 49 = .ok (.iconst (-1), 1) := by decide +kernel
theorem dX7_firstFault_50 : decode cX7_firstFault 50 = .ok (.goto 4, 3) := by decide +kernel
theorem dX7_firstFault_53 : decode cX7_firstFault 53 = .ok (.iload_n 2, 1) := by decide +kernel
theorem dX7_firstFault_54 : decode cX7_firstFault 54 = .ok (.ireturn, 1) := by decide +kernel
theorem dX7_goesOn_0 : decode cX7_goesOn 0 = .ok (.aload_n 0, 1) := by decide +kernel
theorem dX7_goesOn_1 : decode cX7_goesOn 1 = .ok (.iload_n 1, 1) := by decide +kernel
theorem dX7_goesOn_2 : decode cX7_goesOn 2 = .ok (.iload_n 2, 1) := by decide +kernel
theorem dX7_goesOn_3 : decode cX7_goesOn 3 = .ok (.iadd, 1) := by decide +kernel
theorem dX7_goesOn_4 : decode cX7_goesOn 4 = .ok (.invokevirtual 15, 3) := by decide +kernel
theorem dX7_goesOn_7 : decode cX7_goesOn 7 = .ok (.istore_n 3, 1) := by decide +kernel
theorem dX7_goesOn_8 : decode cX7_goesOn 8 = .ok (.iload_n 2, 1) := by decide +kernel
theorem dX7_goesOn_9 : decode cX7_goesOn 9 = .ok (.bipush 35, 2) := by decide +kernel
theorem dX7_goesOn_11 : decode cX7_goesOn 11 = .ok (.if_icmp .lt 5, 3) := by decide +kernel
theorem dX7_goesOn_14 : decode cX7_goesOn 14 = .ok (.iconst 0, 1) := by decide +kernel
theorem dX7_goesOn_15 : decode cX7_goesOn 15 = .ok (.ireturn, 1) := by decide +kernel
theorem dX7_goesOn_16 : decode cX7_goesOn 16 = .ok (.iload_n 2, 1) := by decide +kernel
theorem dX7_goesOn_17 : decode cX7_goesOn 17 = .ok (.ifCond .ne 15, 3) := by decide +kernel
theorem dX7_goesOn_20 : decode cX7_goesOn 20 = .ok (.iload_n 3, 1) := by decide +kernel
theorem dX7_goesOn_21 : decode cX7_goesOn 21 = .ok (.bipush 112, 2) := by decide +kernel
theorem dX7_goesOn_23 : decode cX7_goesOn 23 = .ok (.if_icmp .ne 7, 3) := by decide +kernel
theorem dX7_goesOn_26 : decode cX7_goesOn 26 = .ok (.iconst 1, 1) := by decide +kernel
theorem dX7_goesOn_27 : decode cX7_goesOn 27 = .ok (.goto 4, 3) := by decide +kernel
theorem dX7_goesOn_30 : decode cX7_goesOn 30 = .ok (.iconst 0, 1) := by decide +kernel
theorem dX7_goesOn_31 : decode cX7_goesOn 31 = .ok (.ireturn, 1) := by decide +kernel
theorem dX7_goesOn_32 : decode cX7_goesOn 32 = .ok (.iload_n 2, 1) := by decide +kernel
theorem dX7_goesOn_33 : decode cX7_goesOn 33 = .ok (.iconst 3, 1) := by decide +kernel
theorem dX7_goesOn_34 : decode cX7_goesOn 34 = .ok (.if_icmp .ge 32, 3) := by decide +kernel
theorem dX7_goesOn_37 : decode cX7_goesOn 37 = .ok (.iload_n 3, 1) := by decide +kernel
theorem dX7_goesOn_38 : decode cX7_goesOn 38 = .ok (.invokestatic 21, 3) := by decide +kernel
theorem dX7_goesOn_41 : decode cX7_goesOn 41 = .ok (.ifCond .eq 23, 3) := by decide +kernel
theorem dX7_goesOn_44 : decode cX7_goesOn 44 = .ok (.iload_n 2, 1) := by decide +kernel
theorem dX7_goesOn_45 : decode cX7_goesOn 45 = .ok (.iconst 1, 1) := by decide +kernel
theorem dX7_goesOn_46 : decode cX7_goesOn 46 = .ok (.if_icmp .eq 14, 3) := by decide +kernel
theorem dX7_goesOn_49 : decode cX7_goesOn 49 = .ok (.aload_n 0, 1) := by decide +kernel
theorem dX7_goesOn_50 : decode cX7_goesOn 50 = .ok (.iload_n 1, 1) := by decide +kernel
theorem dX7_goesOn_51 : decode cX7_goesOn 51 = .ok (.iconst 1, 1) := by decide +kernel
theorem dX7_goesOn_52 : decode cX7_goesOn 52 = .ok (.iadd, 1) := by decide +kernel
theorem dX7_goesOn_53 : decode cX7_goesOn 53 = .ok (.iconst 2, 1) := by decide +kernel
theorem dX7_goesOn_54 : decode cX7_goesOn 54 = .ok (.invokestatic 25, 3) := by decide +kernel
theorem dX7_goesOn_57 : decode cX7_goesOn 57 = .ok (.ifCond .le 7, 3) := by decide +kernel
theorem dX7_goesOn_60 : decode cX7_goesOn 60 = .ok (.iconst 1, 1) := by decide +kernel
theorem dX7_goesOn_61 : decode cX7_goesOn 61 = .ok (.goto 4, 3) := by decide +kernel
theorem dX7_goesOn_64 : decode cX7_goesOn 64 = .ok (.iconst 0, 1) := by decide +kernel
theorem dX7_goesOn_65 : decode cX7_goesOn 65 = .ok (.ireturn, 1) := by decide +kernel
theorem dX7_goesOn_66 : decode cX7_goesOn 66 = .ok (.iload_n 2, 1) := by decide +kernel
theorem dX7_goesOn_67 : decode cX7_goesOn 67 = .ok (.iconst 3, 1) := by decide +kernel
theorem dX7_goesOn_68 : decode cX7_goesOn 68 = .ok (.isub, 1) := by decide +kernel
theorem dX7_goesOn_69 : decode cX7_goesOn 69 = .ok (.bipush 8, 2) := by decide +kernel
theorem dX7_goesOn_71 : decode cX7_goesOn 71 = .ok (.irem, 1) := by decide +kernel
theorem dX7_goesOn_72 : decode cX7_goesOn 72 = .ok (.istore 4, 2) := by decide +kernel
theorem dX7_goesOn_74 : decode cX7_goesOn 74 = .ok (.iload 4, 2) := by decide +kernel
theorem dX7_goesOn_76 : decode cX7_goesOn 76 = .ok (.ifCond .ne 15, 3) := by decide +kernel
theorem dX7_goesOn_79 : decode cX7_goesOn 79 = .ok (.iload_n 3, 1) := by decide +kernel
theorem dX7_goesOn_80 : decode cX7_goesOn 80 = .ok (.bipush 59, 2) := by decide +kernel
theorem dX7_goesOn_82 : decode cX7_goesOn 82 = .ok (.if_icmp .ne 7, 3) := by decide +kernel
theorem dX7_goesOn_85 : decode cX7_goesOn 85 = .ok (.iconst 1, 1) := by decide +kernel
theorem dX7_goesOn_86 : decode cX7_goesOn 86 = .ok (.goto 4, 3) := by decide +kernel
theorem dX7_goesOn_89 : decode cX7_goesOn 89 = .ok (.iconst 0, 1) := by decide +kernel
theorem dX7_goesOn_90 : decode cX7_goesOn 90 = .ok (.ireturn, 1) := by decide +kernel
theorem dX7_goesOn_91 : decode cX7_goesOn 91 = .ok (.iload 4, 2) := by decide +kernel
theorem dX7_goesOn_93 : decode cX7_goesOn 93 = .ok (.iconst 1, 1) := by decide +kernel
theorem dX7_goesOn_94 : decode cX7_goesOn 94 = .ok (.if_icmp .ne 17, 3) := by decide +kernel
theorem dX7_goesOn_97 : decode cX7_goesOn 97 = .ok (.iload_n 3, 1) := by decide +kernel
theorem dX7_goesOn_98 : decode cX7_goesOn 98 = .ok (.invokestatic 29, 3) := by decide +kernel
theorem dX7_goesOn_101 : decode cX7_goesOn 101 = .ok (.iconst (-1), 1) := by decide +kernel
theorem dX7_goesOn_102 : decode cX7_goesOn 102 = .ok (.if_icmp .eq 7, 3) := by decide +kernel
theorem dX7_goesOn_105 : decode cX7_goesOn 105 = .ok (.iconst 1, 1) := by decide +kernel
theorem dX7_goesOn_106 : decode cX7_goesOn 106 = .ok (.goto 4, 3) := by decide +kernel
theorem dX7_goesOn_109 : decode cX7_goesOn 109 = .ok (.iconst 0, 1) := by decide +kernel
theorem dX7_goesOn_110 : decode cX7_goesOn 110 = .ok (.ireturn, 1) := by decide +kernel
theorem dX7_goesOn_111 : decode cX7_goesOn 111 = .ok (.iload 4, 2) := by decide +kernel
theorem dX7_goesOn_113 : decode cX7_goesOn 113 = .ok (.iconst 5, 1) := by decide +kernel
theorem dX7_goesOn_114 : decode cX7_goesOn 114 = .ok (.if_icmp .ge 10, 3) := by decide +kernel
theorem dX7_goesOn_117 : decode cX7_goesOn 117 = .ok (.iload 4, 2) := by decide +kernel
theorem dX7_goesOn_119 : decode cX7_goesOn 119 = .ok (.iconst 2, 1) := by decide +kernel
theorem dX7_goesOn_120 : decode cX7_goesOn 120 = .ok (.isub, 1) := by decide +kernel
theorem dX7_goesOn_121 : decode cX7_goesOn 121 = .ok (.goto 7, 3) := by decide +kernel
theorem dX7_goesOn_124 : decode cX7_goesOn 124 = .ok (.iload 4, 2) := by decide +kernel
theorem dX7_goesOn_126 : decode cX7_goesOn 126 = .ok (.iconst 5, 1) := by decide +kernel
theorem dX7_goesOn_127 : decode cX7_goesOn 127 = .ok (.isub, 1) := by decide +kernel
theorem dX7_goesOn_128 : decode cX7_goesOn 128 = .ok (.istore 5, 2) := by decide +kernel
theorem dX7_goesOn_130 : decode cX7_goesOn 130 = .ok (.iload_n 3, 1) := by decide +kernel
theorem dX7_goesOn_131 : decode cX7_goesOn 131 = .ok (.invokestatic 21, 3) := by decide +kernel
theorem dX7_goesOn_134 : decode cX7_goesOn 134 = .ok (.ifCond .eq 42, 3) := by decide +kernel
theorem dX7_goesOn_137 : decode cX7_goesOn 137 = .ok (.iload 5, 2) := by decide +kernel
theorem dX7_goesOn_139 : decode cX7_goesOn 139 = .ok (.getstatic 32, 3) := by decide +kernel
theorem dX7_goesOn_142 : decode cX7_goesOn 142 = .ok (.arraylength, 1) := by decide +kernel
theorem dX7_goesOn_143 : decode cX7_goesOn 143 = .ok (.invokestatic 36, 3) := by decide +kernel
theorem dX7_goesOn_146 : decode cX7_goesOn 146 = .ok (.ifCond .eq 30, 3) := by decide +kernel
theorem dX7_goesOn_149 : decode cX7_goesOn 149 = .ok (.aload_n 0, 1) := by decide +kernel
theorem dX7_goesOn_150 : decode cX7_goesOn 150 = .ok (.iload_n 1, 1) := by decide +kernel
theorem dX7_goesOn_151 : decode cX7_goesOn 151 = .ok (.iload_n 2, 1) := by decide +kernel
theorem dX7_goesOn_152 : decode cX7_goesOn 152 = .ok (.iadd, 1) := by decide +kernel
theorem dX7_goesOn_153 : decode cX7_goesOn 153 = .ok (.iload 5, 2) := by decide +kernel
theorem dX7_goesOn_155 : decode cX7_goesOn 155 = .ok (.isub, 1) := by decide +kernel
theorem dX7_goesOn_156 : decode cX7_goesOn 156 = .ok (.iload 5, 2) := by decide +kernel
theorem dX7_goesOn_158 : decode cX7_goesOn 158 = .ok (.iconst 1, 1) := by decide +kernel
theorem dX7_goesOn_159 : decode cX7_goesOn 159 = .ok (.iadd, 1) := by decide +kernel
theorem dX7_goesOn_160 : decode cX7_goesOn 160 = .ok (.invokestatic 25, 3) := by decide +kernel
theorem dX7_goesOn_163 : decode cX7_goesOn 163 = .ok (.getstatic 32, 3) := by decide +kernel
theorem dX7_goesOn_166 : decode cX7_goesOn 166 = .ok (.iload 5, 2) := by decide +kernel
theorem dX7_goesOn_168 : decode cX7_goesOn 168 = .ok (.iaload, 1) := by decide +kernel
theorem dX7_goesOn_169 : decode cX7_goesOn 169 = .ok (.if_icmp .gt 7, 3) := by decide +kernel
theorem dX7_goesOn_172 : decode cX7_goesOn 172 = .ok (.iconst 1, 1) := by decide +kernel
theorem dX7_goesOn_173 : decode cX7_goesOn 173 = .ok (.goto 4, 3) := by decide +kernel
theorem dX7_goesOn_176 : decode cX7_goesOn 176 = .ok (.iconst 0, 1) := by decide +kernel
theorem dX7_goesOn_177 : decode cX7_goesOn 177 = .ok (.ireturn, 1) := by decide +kernel
theorem dX7_isDigit_0 : decode cX7_isDigit 0 = .ok (.bipush 48, 2) := by decide +kernel
theorem dX7_isDigit_2 : decode cX7_isDigit 2 = .ok (.iload_n 0, 1) := by decide +kernel
theorem dX7_isDigit_3 : decode cX7_isDigit 3 = .ok (.if_icmp .gt 13, 3) := by decide +kernel
theorem dX7_isDigit_6 : decode cX7_isDigit 6 = .ok (.iload_n 0, 1) := by decide +kernel
theorem dX7_isDigit_7 : decode cX7_isDigit 7 = .ok (.bipush 57, 2) := by decide +kernel
theorem dX7_isDigit_9 : decode cX7_isDigit 9 = .ok (.if_icmp .gt 7, 3) := by decide +kernel
theorem dX7_isDigit_12 : decode cX7_isDigit 12 = .ok (.iconst 1, 1) := by decide +kernel
theorem dX7_isDigit_13 : decode cX7_isDigit 13 = .ok (.goto 4, 3) := by decide +kernel
theorem dX7_isDigit_16 : decode cX7_isDigit 16 = .ok (.iconst 0, 1) := by decide +kernel
theorem dX7_isDigit_17 : decode cX7_isDigit 17 = .ok (.ireturn, 1) := by decide +kernel
theorem dX7_number_0 : decode cX7_number 0 = .ok (.iconst 0, 1) := by decide +kernel
theorem dX7_number_1 : decode cX7_number 1 = .ok (.istore_n 3, 1) := by decide +kernel
theorem dX7_number_2 : decode cX7_number 2 = .ok (.iload_n 1, 1) := by decide +kernel
theorem dX7_number_3 : decode cX7_number 3 = .ok (.istore 4, 2) := by decide +kernel
theorem dX7_number_5 : decode cX7_number 5 = .ok (.iload 4, 2) := by decide +kernel
theorem dX7_number_7 : decode cX7_number 7 = .ok (.iload_n 1, 1) := by decide +kernel
theorem dX7_number_8 : decode cX7_number 8 = .ok (.iload_n 2, 1) := by decide +kernel
theorem dX7_number_9 : decode cX7_number 9 = .ok (.iadd, 1) := by decide +kernel
theorem dX7_number_10 : decode cX7_number 10 = .ok (.if_icmp .ge 24, 3) := by decide +kernel
theorem dX7_number_13 : decode cX7_number 13 = .ok (.bipush 10, 2) := by decide +kernel
theorem dX7_number_15 : decode cX7_number 15 = .ok (.iload_n 3, 1) := by decide +kernel
theorem dX7_number_16 : decode cX7_number 16 = .ok (.imul, 1) := by decide +kernel
theorem dX7_number_17 : decode cX7_number 17 = .ok (.aload_n 0, 1) := by decide +kernel
theorem dX7_number_18 : decode cX7_number 18 = .ok (.iload 4, 2) := by decide +kernel
theorem dX7_number_20 : decode cX7_number 20 = .ok (.invokevirtual 15, 3) := by decide +kernel
theorem dX7_number_23 : decode cX7_number 23 = .ok (.iadd, 1) := by decide +kernel
theorem dX7_number_24 : decode cX7_number 24 = .ok (.bipush 48, 2) := by decide +kernel
theorem dX7_number_26 : decode cX7_number 26 = .ok (.isub, 1) := by decide +kernel
theorem dX7_number_27 : decode cX7_number 27 = .ok (.istore_n 3, 1) := by decide +kernel
theorem dX7_number_28 : decode cX7_number 28 = .ok (.iinc 4 1, 3) := by decide +kernel
theorem dX7_number_31 : decode cX7_number 31 = .ok (.goto (-26), 3) := by decide +kernel
theorem dX7_number_34 : decode cX7_number 34 = .ok (.iload_n 3, 1) := by decide +kernel
theorem dX7_number_35 : decode cX7_number 35 = .ok (.ireturn, 1) := by decide +kernel
theorem dX7_kindOf_0 : decode cX7_kindOf 0 = .ok (.iload_n 0, 1) := by decide +kernel
theorem dX7_kindOf_1 : decode cX7_kindOf 1 = .ok (.lookupswitch 41 #[(102, 35), (109, 37), (116, 39)], 35) := by decide +kernel
theorem dX7_kindOf_36 : decode cX7_kindOf 36 = .ok (.iconst 0, 1) := by decide +kernel
theorem dX7_kindOf_37 : decode cX7_kindOf 37 = .ok (.ireturn, 1) := by decide +kernel
theorem dX7_kindOf_38 : decode cX7_kindOf 38 = .ok (.iconst 1, 1) := by decide +kernel
theorem dX7_kindOf_39 : decode cX7_kindOf 39 = .ok (.ireturn, 1) := by decide +kernel
theorem dX7_kindOf_40 : decode cX7_kindOf 40 = .ok (.iconst 2, 1) := by decide +kernel
theorem dX7_kindOf_41 : decode cX7_kindOf 41 = .ok (.ireturn, 1) := by decide +kernel
theorem dX7_kindOf_42 : decode cX7_kindOf 42 = .ok (.iconst (-1), 1) := by decide +kernel
theorem dX7_kindOf_43 : decode cX7_kindOf 43 = .ok (.ireturn, 1) := by decide +kernel
theorem dX7_fill_0 : decode cX7_fill 0 = .ok (.aload_n 0, 1) := by decide +kernel
theorem dX7_fill_1 : decode cX7_fill 1 = .ok (.aload_n 1, 1) := by decide +kernel
theorem dX7_fill_2 : decode cX7_fill 2 = .ok (.iload_n 2, 1) := by decide +kernel
theorem dX7_fill_3 : decode cX7_fill 3 = .ok (.iconst 1, 1) := by decide +kernel
theorem dX7_fill_4 : decode cX7_fill 4 = .ok (.iadd, 1) := by decide +kernel
theorem dX7_fill_5 : decode cX7_fill 5 = .ok (.iconst 2, 1) := by decide +kernel
theorem dX7_fill_6 : decode cX7_fill 6 = .ok (.invokestatic 25, 3) := by decide +kernel
theorem dX7_fill_9 : decode cX7_fill 9 = .ok (.iload_n 3, 1) := by decide +kernel
theorem dX7_fill_10 : decode cX7_fill 10 = .ok (.iconst 3, 1) := by decide +kernel
theorem dX7_fill_11 : decode cX7_fill 11 = .ok (.isub, 1) := by decide +kernel
theorem dX7_fill_12 : decode cX7_fill 12 = .ok (.bipush 8, 2) := by decide +kernel
theorem dX7_fill_14 : decode cX7_fill 14 = .ok (.idiv, 1) := by decide +kernel
theorem dX7_fill_15 : decode cX7_fill 15 = .ok (.invokevirtual 40, 3) := by decide +kernel
theorem dX7_fill_18 : decode cX7_fill 18 = .ok (.iconst 0, 1) := by decide +kernel
theorem dX7_fill_19 : decode cX7_fill 19 = .ok (.istore 4, 2) := by decide +kernel
theorem dX7_fill_21 : decode cX7_fill 21 = .ok (.iload 4, 2) := by decide +kernel
theorem dX7_fill_23 : decode cX7_fill 23 = .ok (.aload_n 0, 1) := by decide +kernel
theorem dX7_fill_24 : decode cX7_fill 24 = .ok (.getfield 46, 3) := by decide +kernel
theorem dX7_fill_27 : decode cX7_fill 27 = .ok (.if_icmp .ge 59, 3) := by decide +kernel
theorem dX7_fill_30 : decode cX7_fill 30 = .ok (.iload_n 2, 1) := by decide +kernel
theorem dX7_fill_31 : decode cX7_fill 31 = .ok (.iconst 3, 1) := by decide +kernel
theorem dX7_fill_32 : decode cX7_fill 32 = .ok (.iadd, 1) := by decide +kernel
theorem dX7_fill_33 : decode cX7_fill 33 = .ok (.iload 4, 2) := by decide +kernel
theorem dX7_fill_35 : decode cX7_fill 35 = .ok (.bipush 8, 2) := by decide +kernel
theorem dX7_fill_37 : decode cX7_fill 37 = .ok (.imul, 1) := by decide +kernel
theorem dX7_fill_38 : decode cX7_fill 38 = .ok (.iadd, 1) := by decide +kernel
theorem dX7_fill_39 : decode cX7_fill 39 = .ok (.istore 5, 2) := by decide +kernel
theorem dX7_fill_41 : decode cX7_fill 41 = .ok (.aload_n 0, 1) := by decide +kernel
theorem dX7_fill_42 : decode cX7_fill 42 = .ok (.getfield 50, 3) := by decide +kernel
theorem dX7_fill_45 : decode cX7_fill 45 = .ok (.iload 4, 2) := by decide +kernel
theorem dX7_fill_47 : decode cX7_fill 47 = .ok (.aaload, 1) := by decide +kernel
theorem dX7_fill_48 : decode cX7_fill 48 = .ok (.aload_n 1, 1) := by decide +kernel
theorem dX7_fill_49 : decode cX7_fill 49 = .ok (.iload 5, 2) := by decide +kernel
theorem dX7_fill_51 : decode cX7_fill 51 = .ok (.iconst 1, 1) := by decide +kernel
theorem dX7_fill_52 : decode cX7_fill 52 = .ok (.iadd, 1) := by decide +kernel
theorem dX7_fill_53 : decode cX7_fill 53 = .ok (.invokevirtual 15, 3) := by decide +kernel
theorem dX7_fill_56 : decode cX7_fill 56 = .ok (.invokestatic 29, 3) := by decide +kernel
theorem dX7_fill_59 : decode cX7_fill 59 = .ok (.aload_n 1, 1) := by decide +kernel
theorem dX7_fill_60 : decode cX7_fill 60 = .ok (.iload 5, 2) := by decide +kernel
theorem dX7_fill_62 : decode cX7_fill 62 = .ok (.iconst 2, 1) := by decide +kernel
theorem dX7_fill_63 : decode cX7_fill 63 = .ok (.iadd, 1) := by decide +kernel
theorem dX7_fill_64 : decode cX7_fill 64 = .ok (.iconst 3, 1) := by decide +kernel
theorem dX7_fill_65 : decode cX7_fill 65 = .ok (.invokestatic 25, 3) := by decide +kernel
theorem dX7_fill_68 : decode cX7_fill 68 = .ok (.aload_n 1, 1) := by decide +kernel
theorem dX7_fill_69 : decode cX7_fill 69 = .ok (.iload 5, 2) := by decide +kernel
theorem dX7_fill_71 : decode cX7_fill 71 = .ok (.iconst 5, 1) := by decide +kernel
theorem dX7_fill_72 : decode cX7_fill 72 = .ok (.iadd, 1) := by decide +kernel
theorem dX7_fill_73 : decode cX7_fill 73 = .ok (.iconst 3, 1) := by decide +kernel
theorem dX7_fill_74 : decode cX7_fill 74 = .ok (.invokestatic 25, 3) := by decide +kernel
theorem dX7_fill_77 : decode cX7_fill 77 = .ok (.invokevirtual 54, 3) := by decide +kernel
theorem dX7_fill_80 : decode cX7_fill 80 = .ok (.iinc 4 1, 3) := by decide +kernel
theorem dX7_fill_83 : decode cX7_fill 83 = .ok (.goto (-62), 3) := by decide +kernel
theorem dX7_fill_86 : decode cX7_fill 86 = .ok (.return_, 1) := by decide +kernel
theorem dX8_init_0 : decode cX8_init 0 = .ok (.aload_n 0, 1) := by decide +kernel
theorem dX8_init_1 : decode cX8_init 1 = .ok (.invokespecial 3, 3) := by decide +kernel
theorem dX8_init_4 : decode cX8_init 4 = .ok (.aload_n 0, 1) := by decide +kernel
theorem dX8_init_5 : decode cX8_init 5 = .ok (.iconst 4, 1) := by decide +kernel
theorem dX8_init_6 : decode cX8_init 6 = .ok (.anewarray 11, 3) := by decide +kernel
theorem dX8_init_9 : decode cX8_init 9 = .ok (.putfield 13, 3) := by decide +kernel
theorem dX8_init_12 : decode cX8_init 12 = .ok (.aload_n 0, 1) := by decide +kernel
theorem dX8_init_13 : decode cX8_init 13 = .ok (.new 17, 3) := by decide +kernel
theorem dX8_init_16 : decode cX8_init 16 = .ok (.dup, 1) := by decide +kernel
theorem dX8_init_17 : decode cX8_init 17 = .ok (.invokespecial 19, 3) := by decide +kernel
theorem dX8_init_20 : decode cX8_init 20 = .ok (.putfield 20, 3) := by decide +kernel
theorem dX8_init_23 : decode cX8_init 23 = .ok (.aload_n 0, 1) := by decide +kernel
theorem dX8_init_24 : decode cX8_init 24 = .ok (.new 24, 3) := by decide +kernel
theorem dX8_init_27 : decode cX8_init 27 = .ok (.dup, 1) := by decide +kernel
theorem dX8_init_28 : decode cX8_init 28 = .ok (.invokespecial 26, 3) := by decide +kernel
theorem dX8_init_31 : decode cX8_init 31 = .ok (.putfield 27, 3) := by decide +kernel
theorem dX8_init_34 : decode cX8_init 34 = .ok (.aload_n 0, 1) := by decide +kernel
theorem dX8_init_35 : decode cX8_init 35 = .ok (.new 31, 3) := by decide +kernel
theorem dX8_init_38 : decode cX8_init 38 = .ok (.dup, 1) := by decide +kernel
theorem dX8_init_39 : decode cX8_init 39 = .ok (.invokespecial 33, 3) := by decide +kernel
theorem dX8_init_42 : decode cX8_init 42 = .ok (.putfield 34, 3) := by decide +kernel
theorem dX8_init_45 : decode cX8_init 45 = .ok (.aload_n 0, 1) := by decide +kernel
theorem dX8_init_46 : decode cX8_init 46 = .ok (.new 38, 3) := by decide +kernel
theorem dX8_init_49 : decode cX8_init 49 = .ok (.dup, 1) := by decide +kernel
theorem dX8_init_50 : decode cX8_init 50 = .ok (.invokespecial 40, 3) := by decide +kernel
theorem dX8_init_53 : decode cX8_init 53 = .ok (.putfield 41, 3) := by decide +kernel
theorem dX8_init_56 : decode cX8_init 56 = .ok (.iconst 0, 1) := by decide +kernel
theorem dX8_init_57 : decode cX8_init 57 = .ok (.istore_n 1, 1) := by decide +kernel
theorem dX8_init_58 : decode cX8_init 58 = .ok (.iload_n 1, 1) := by decide +kernel
theorem dX8_init_59 : decode cX8_init 59 = .ok (.iconst 4, 1) := by decide +kernel
theorem dX8_init_60 : decode cX8_init 60 = .ok (.if_icmp .ge 22, 3) := by decide +kernel
theorem dX8_init_63 : decode cX8_init 63 = .ok (.aload_n 0, 1) := by decide +kernel
theorem dX8_init_64 : decode cX8_init 64 = .ok (.getfield 13, 3) := by decide +kernel
theorem dX8_init_67 : decode cX8_init 67 = .ok (.iload_n 1, 1) := by decide +kernel
theorem dX8_init_68 : decode cX8_init 68 = .ok (.new 11, 3) := by decide +kernel
theorem dX8_init_71 : decode cX8_init 71 = .ok (.dup, 1) := by decide +kernel
theorem dX8_init_72 : decode cX8_init 72 = .ok (.invokespecial 45, 3) := by decide +kernel
theorem dX8_init_75 : decode cX8_init 75 = .ok (.aastore, 1) := by decide +kernel
theorem dX8_init_76 : decode cX8_init 76 = .ok (.iinc 1 1, 3) := by decide +kernel
theorem dX8_init_79 : decode cX8_init 79 = .ok (.goto (-21), 3) := by decide +kernel
theorem dX8_init_82 : decode cX8_init 82 = .ok (.return_, 1) := by decide +kernel
theorem dX8_panel_0 : decode cX8_panel 0 = .ok (.aload_n 0, 1) := by decide +kernel
theorem dX8_panel_1 : decode cX8_panel 1 = .ok (.iconst 0, 1) := by decide +kernel
theorem dX8_panel_2 : decode cX8_panel 2 = .ok (.putfield 46, 3) := by decide +kernel
theorem dX8_panel_5 : decode cX8_panel 5 = .ok (.iload_n 1, 1) := by decide +kernel
theorem dX8_panel_6 : decode cX8_panel 6 = .ok (.iconst 4, 1) := by decide +kernel
theorem dX8_panel_7 : decode cX8_panel 7 = .ok (.invokestatic 50, 3) := by decide +kernel
theorem dX8_panel_10 : decode cX8_panel 10 = .ok (.ifCond .ne 5, 3) := by decide +kernel
theorem dX8_panel_13 : decode cX8_panel 13 = .ok (.iconst (-1), 1) := by decide +kernel
theorem dX8_panel_14 : decode cX8_panel 14 = .ok (.ireturn, 1) := by decide +kernel
theorem dX8_panel_15 : decode cX8_panel 15 = .ok (.iload_n 2, 1) := by decide +kernel
theorem dX8_panel_16 : decode cX8_panel 16 = .ok (.iconst 3, 1) := by decide +kernel
theorem dX8_panel_17 : decode cX8_panel 17 = .ok (.invokestatic 50, 3) := by decide +kernel
theorem dX8_panel_20 : decode cX8_panel 20 = .ok (.ifCond .ne 6, 3) := by decide +kernel
theorem dX8_panel_23 : decode cX8_panel 23 = .ok (.bipush (-2), 2) := by decide +kernel
theorem dX8_panel_25 : decode cX8_panel 25 = .ok (.ireturn, 1) := by decide +kernel
theorem dX8_panel_26 : decode cX8_panel 26 = .ok (.aload_n 0, 1) := by decide +kernel
theorem dX8_panel_27 : decode cX8_panel 27 = .ok (.getfield 13, 3) := by decide +kernel
theorem dX8_panel_30 : decode cX8_panel 30 = .ok (.iload_n 1, 1) := by decide +kernel
theorem dX8_panel_31 : decode cX8_panel 31 = .ok (.aaload, 1) := by decide +kernel
theorem dX8_panel_32 : decode cX8_panel 32 = .ok (.astore 5, 2) := by decide +kernel
theorem dX8_panel_34 : decode cX8_panel 34 = .ok (.aload 5, 2) := by decide +kernel
theorem dX8_panel_36 : decode cX8_panel 36 = .ok (.iload_n 2, 1) := by decide +kernel
theorem dX8_panel_37 : decode cX8_panel 37 = .ok (.iload_n 3, 1) := by decide +kernel
theorem dX8_panel_38 : decode cX8_panel 38 = .ok (.iload 4, 2) := by decide +kernel
theorem dX8_panel_40 : decode cX8_panel 40 = .ok (.invokevirtual 54, 3) := by decide +kernel
theorem dX8_panel_43 : decode cX8_panel 43 = .ok (.istore 6, 2) := by decide +kernel
theorem dX8_panel_45 : decode cX8_panel 45 = .ok (.iload 6, 2) := by decide +kernel
theorem dX8_panel_47 : decode cX8_panel 47 = .ok (.ifCond .eq 10, 3) := by decide +kernel
theorem dX8_panel_50 : decode cX8_panel 50 = .ok (.aload_n 0, 1) := by decide +kernel
theorem dX8_panel_51 : decode cX8_panel 51 = .ok (.iload 6, 2) := by decide +kernel
theorem dX8_panel_53 : decode cX8_panel 53 = .ok (.invokevirtual 58, 3) := by decide +kernel
theorem dX8_panel_56 : decode cX8_panel 56 = .ok (.ireturn, 1) := by decide +kernel
theorem dX8_panel_57 : decode cX8_panel 57 = .ok (.aload 5, 2) := by decide +kernel
theorem dX8_panel_59 : decode cX8_panel 59 = .ok (.iload_n 3, 1) := by decide +kernel
theorem dX8_panel_60 : decode cX8_panel 60 = .ok (.iload 4, 2) := by decide +kernel
theorem dX8_panel_62 : decode cX8_panel 62 = .ok (.invokestatic 62, 3) := by decide +kernel
theorem dX8_panel_65 : decode cX8_panel 65 = .ok (.istore 7, 2) := by decide +kernel
theorem dX8_panel_67 : decode cX8_panel 67 = .ok (.iload 7, 2) := by decide +kernel
theorem dX8_panel_69 : decode cX8_panel 69 = .ok (.iconst (-1), 1) := by decide +kernel
theorem dX8_panel_70 : decode cX8_panel 70 = .ok (.if_icmp .eq 9, 3) := by decide +kernel
theorem dX8_panel_73 : decode cX8_panel 73 = .ok (.bipush (-100), 2) := by decide +kernel
theorem dX8_panel_75 : decode cX8_panel 75 = .ok (.iload 7, 2) := by decide +kernel
theorem dX8_panel_77 : decode cX8_panel 77 = .ok (.isub, 1) := by decide +kernel
theorem dX8_panel_78 : decode cX8_panel 78 = .ok (.ireturn, 1) := by decide +kernel
theorem dX8_panel_79 : decode cX8_panel 79 = .ok (.aload_n 0, 1) := by decide +kernel
theorem dX8_panel_80 : decode cX8_panel 80 = .ok (.getfield 20, 3) := by decide +kernel
theorem dX8_panel_83 : decode cX8_panel 83 = .ok (.aload 5, 2) := by decide +kernel
theorem dX8_panel_85 : decode cX8_panel 85 = .ok (.iload_n 3, 1) := by decide +kernel
theorem dX8_panel_86 : decode cX8_panel 86 = .ok (.iload 4, 2) := by decide +kernel
theorem dX8_panel_88 : decode cX8_panel 88 = .ok (.invokestatic 68, 3) := by decide +kernel
theorem dX8_panel_91 : decode cX8_panel 91 = .ok (.aload_n 0, 1) := by decide +kernel
theorem dX8_panel_92 : decode cX8_panel 92 = .ok (.getfield 27, 3) := by decide +kernel
theorem dX8_panel_95 : decode cX8_panel 95 = .ok (.iconst 0, 1) := by decide +kernel
theorem dX8_panel_96 : decode cX8_panel 96 = .ok (.putfield 72, 3) := by decide +kernel
theorem dX8_panel_99 : decode cX8_panel 99 = .ok (.aload_n 0, 1) := by decide +kernel
theorem dX8_panel_100 : decode cX8_panel 100 = .ok (.getfield 20, 3) := by decide +kernel
theorem dX8_panel_103 : decode cX8_panel 103 = .ok (.getfield 75, 3) := by decide +kernel
theorem dX8_panel_106 : decode cX8_panel 106 = .ok (.ireturn, 1) := by decide +kernel
theorem dX8_ofPlace_0 : decode cX8_ofPlace 0 = .ok (.aload_n 0, 1) := by decide +kernel
theorem dX8_ofPlace_1 : decode cX8_ofPlace 1 = .ok (.iload_n 1, 1) := by decide +kernel
theorem dX8_ofPlace_2 : decode cX8_ofPlace 2 = .ok (.invokevirtual 76, 3) := by decide +kernel
theorem dX8_ofPlace_5 : decode cX8_ofPlace 5 = .ok (.ifCond .ne 5, 3) := by decide +kernel
theorem dX8_ofPlace_8 : decode cX8_ofPlace 8 = .ok (.iconst (-1), 1) := by decide +kernel
theorem dX8_ofPlace_9 : decode cX8_ofPlace 9 = .ok (.ireturn, 1) := by decide +kernel
theorem dX8_ofPlace_10 : decode cX8_ofPlace 10 = .ok (.aload_n 0, 1) := by decide +kernel
theorem dX8_ofPlace_11 : decode cX8_ofPlace 11 = .ok (.getfield 20, 3) := by decide +kernel
theorem dX8_ofPlace_14 : decode cX8_ofPlace 14 = .ok (.getfield 80, 3) := by decide +kernel
theorem dX8_ofPlace_17 : decode cX8_ofPlace 17 = .ok (.iload_n 1, 1) := by decide +kernel
theorem dX8_ofPlace_18 : decode cX8_ofPlace 18 = .ok (.aaload, 1) := by decide +kernel
theorem dX8_ofPlace_19 : decode cX8_ofPlace 19 = .ok (.astore_n 3, 1) := by decide +kernel
theorem dX8_ofPlace_20 : decode cX8_ofPlace 20 = .ok (.iload_n 2, 1) := by decide +kernel
theorem dX8_ofPlace_21 : decode cX8_ofPlace 21 = .ok (.tableswitch 75 0 4 #[35, 40, 45, 50, 55], 35) := by decide +kernel
theorem dX8_ofPlace_56 : decode cX8_ofPlace 56 = .ok (.aload_n 3, 1) := by decide +kernel
theorem dX8_ofPlace_57 : decode cX8_ofPlace 57 = .ok (.getfield 84, 3) := by decide +kernel
theorem dX8_ofPlace_60 : decode cX8_ofPlace 60 = .ok (.ireturn, 1) := by decide +kernel
theorem dX8_ofPlace_61 : decode cX8_ofPlace 61 = .ok (.aload_n 3, 1) := by decide +kernel
theorem dX8_ofPlace_62 : decode cX8_ofPlace 62 = .ok (.getfield 89, 3) := by decide +kernel
theorem dX8_ofPlace_65 : decode cX8_ofPlace 65 = .ok (.ireturn, 1) := by decide +kernel
theorem dX8_ofPlace_66 : decode cX8_ofPlace 66 = .ok (.aload_n 3, 1) := by decide +kernel
theorem dX8_ofPlace_67 : decode cX8_ofPlace 67 = .ok (.getfield 92, 3) := by decide +kernel
theorem dX8_ofPlace_70 : decode cX8_ofPlace 70 = .ok (.ireturn, 1) := by decide +kernel
theorem dX8_ofPlace_71 : decode cX8_ofPlace 71 = .ok (.aload_n 3, 1) := by decide +kernel
theorem dX8_ofPlace_72 : decode cX8_ofPlace 72 = .ok (.invokevirtual 95, 3) := by decide +kernel
theorem dX8_ofPlace_75 : decode cX8_ofPlace 75 = .ok (.ireturn, 1) := by decide +kernel
theorem dX8_ofPlace_76 : decode cX8_ofPlace 76 = .ok (.aload_n 3, 1) := by decide +kernel
theorem dX8_ofPlace_77 : decode cX8_ofPlace 77 = .ok (.aload_n 0, 1) := by decide +kernel
theorem dX8_ofPlace_78 : decode cX8_ofPlace 78 = .ok (.getfield 20, 3) := by decide +kernel
theorem dX8_ofPlace_81 : decode cX8_ofPlace 81 = .ok (.aload_n 0, 1) := by decide +kernel
theorem dX8_ofPlace_82 : decode cX8_ofPlace 82 = .ok (.getfield 20, 3) := by decide +kernel
theorem dX8_ofPlace_85 : decode cX8_ofPlace 85 = .ok (.getfield 99, 3) := by decide +kernel
theorem dX8_ofPlace_88 : decode cX8_ofPlace 88 = .ok (.iload_n 1, 1) := by decide +kernel
theorem dX8_ofPlace_89 : decode cX8_ofPlace 89 = .ok (.invokevirtual 102, 3) := by decide +kernel
theorem dX8_ofPlace_92 : decode cX8_ofPlace 92 = .ok (.invokevirtual 106, 3) := by decide +kernel
theorem dX8_ofPlace_95 : decode cX8_ofPlace 95 = .ok (.ireturn, 1) := by decide +kernel
theorem dX8_ofPlace_96 : decode cX8_ofPlace 96 = .ok (.bipush (-2), 2) := by decide +kernel
theorem dX8_ofPlace_98 : decode cX8_ofPlace 98 = .ok (.ireturn, 1) := by decide +kernel
theorem dX8_wear_0 : decode cX8_wear 0 = .ok (.aload_n 0, 1) := by decide +kernel
theorem dX8_wear_1 : decode cX8_wear 1 = .ok (.iload_n 1, 1) := by decide +kernel
theorem dX8_wear_2 : decode cX8_wear 2 = .ok (.invokevirtual 76, 3) := by decide +kernel
theorem dX8_wear_5 : decode cX8_wear 5 = .ok (.ifCond .eq 29, 3) := by decide +kernel
theorem dX8_wear_8 : decode cX8_wear 8 = .ok (.iload_n 2, 1) := by decide +kernel
theorem dX8_wear_9 : decode cX8_wear 9 = .ok (.bipush 7, 2) := by decide +kernel
theorem dX8_wear_11 : decode cX8_wear 11 = .ok (.invokestatic 50, 3) := by decide +kernel
theorem dX8_wear_14 : decode cX8_wear 14 = .ok (.ifCond .eq 20, 3) := by decide +kernel
theorem dX8_wear_17 : decode cX8_wear 17 = .ok (.aload_n 0, 1) := by decide +kernel
theorem dX8_wear_18 : decode cX8_wear 18 = .ok (.getfield 20, 3) := by decide +kernel
theorem dX8_wear_21 : decode cX8_wear 21 = .ok (.getfield 80, 3) := by decide +kernel
theorem dX8_wear_24 : decode cX8_wear 24 = .ok (.iload_n 1, 1) := by decide +kernel
theorem dX8_wear_25 : decode cX8_wear 25 = .ok (.aaload, 1) := by decide +kernel
theorem dX8_wear_26 : decode cX8_wear 26 = .ok (.getfield 109, 3) := by decide +kernel
theorem dX8_wear_29 : decode cX8_wear 29 = .ok (.iload_n 2, 1) := by decide +kernel
theorem dX8_wear_30 : decode cX8_wear 30 = .ok (.iaload, 1) := by decide +kernel
theorem dX8_wear_31 : decode cX8_wear 31 = .ok (.goto 4, 3) := by decide +kernel
theorem dX8_wear_34 : decode cX8_wear 34 = .ok (.iconst (-1), 1) := by decide +kernel
end
section
theorem dX8_wear_35 : decode cX8_wear 35 = .ok (.ireturn, 1) := by decide +kernel
theorem dX8_kill_0 : decode cX8_kill 0 = .ok (.aload_n 0, 1) := by decide +kernel
theorem dX8_kill_1 : decode cX8_kill 1 = .ok (.iload_n 1, 1) := by decide +kernel
theorem dX8_kill_2 : decode cX8_kill 2 = .ok (.invokevirtual 76, 3) := by decide +kernel
theorem dX8_kill_5 : decode cX8_kill 5 = .ok (.ifCond .ne 5, 3) := by decide +kernel
theorem dX8_kill_8 : decode cX8_kill 8 = .ok (.iconst (-1), 1) := by decide +kernel
theorem dX8_kill_9 : decode cX8_kill 9 = .ok (.ireturn, 1) := by decide +kernel
theorem dX8_kill_10 : decode cX8_kill 10 = .ok (.iload_n 2, 1) := by decide +kernel
theorem dX8_kill_11 : decode cX8_kill 11 = .ok (.sipush 128, 3) := by decide +kernel
theorem dX8_kill_14 : decode cX8_kill 14 = .ok (.invokestatic 50, 3) := by decide +kernel
theorem dX8_kill_17 : decode cX8_kill 17 = .ok (.ifCond .eq 19, 3) := by decide +kernel
theorem dX8_kill_20 : decode cX8_kill 20 = .ok (.aload_n 0, 1) := by decide +kernel
theorem dX8_kill_21 : decode cX8_kill 21 = .ok (.getfield 20, 3) := by decide +kernel
theorem dX8_kill_24 : decode cX8_kill 24 = .ok (.getfield 80, 3) := by decide +kernel
theorem dX8_kill_27 : decode cX8_kill 27 = .ok (.iload_n 1, 1) := by decide +kernel
theorem dX8_kill_28 : decode cX8_kill 28 = .ok (.aaload, 1) := by decide +kernel
theorem dX8_kill_29 : decode cX8_kill 29 = .ok (.iload_n 2, 1) := by decide +kernel
theorem dX8_kill_30 : decode cX8_kill 30 = .ok (.invokevirtual 113, 3) := by decide +kernel
theorem dX8_kill_33 : decode cX8_kill 33 = .ok (.goto 5, 3) := by decide +kernel
theorem dX8_kill_36 : decode cX8_kill 36 = .ok (.bipush (-2), 2) := by decide +kernel
theorem dX8_kill_38 : decode cX8_kill 38 = .ok (.ireturn, 1) := by decide +kernel
theorem dX8_jam_0 : decode cX8_jam 0 = .ok (.aload_n 0, 1) := by decide +kernel
theorem dX8_jam_1 : decode cX8_jam 1 = .ok (.iload_n 1, 1) := by decide +kernel
theorem dX8_jam_2 : decode cX8_jam 2 = .ok (.invokevirtual 76, 3) := by decide +kernel
theorem dX8_jam_5 : decode cX8_jam 5 = .ok (.ifCond .ne 5, 3) := by decide +kernel
theorem dX8_jam_8 : decode cX8_jam 8 = .ok (.iconst (-1), 1) := by decide +kernel
theorem dX8_jam_9 : decode cX8_jam 9 = .ok (.ireturn, 1) := by decide +kernel
theorem dX8_jam_10 : decode cX8_jam 10 = .ok (.iload_n 2, 1) := by decide +kernel
theorem dX8_jam_11 : decode cX8_jam 11 = .ok (.sipush 128, 3) := by decide +kernel
theorem dX8_jam_14 : decode cX8_jam 14 = .ok (.invokestatic 50, 3) := by decide +kernel
theorem dX8_jam_17 : decode cX8_jam 17 = .ok (.ifCond .eq 19, 3) := by decide +kernel
theorem dX8_jam_20 : decode cX8_jam 20 = .ok (.aload_n 0, 1) := by decide +kernel
theorem dX8_jam_21 : decode cX8_jam 21 = .ok (.getfield 20, 3) := by decide +kernel
theorem dX8_jam_24 : decode cX8_jam 24 = .ok (.getfield 80, 3) := by decide +kernel
theorem dX8_jam_27 : decode cX8_jam 27 = .ok (.iload_n 1, 1) := by decide +kernel
theorem dX8_jam_28 : decode cX8_jam 28 = .ok (.aaload, 1) := by decide +kernel
theorem dX8_jam_29 : decode cX8_jam 29 = .ok (.iload_n 2, 1) := by decide +kernel
theorem dX8_jam_30 : decode cX8_jam 30 = .ok (.invokevirtual 116, 3) := by decide +kernel
theorem dX8_jam_33 : decode cX8_jam 33 = .ok (.goto 5, 3) := by decide +kernel
theorem dX8_jam_36 : decode cX8_jam 36 = .ok (.bipush (-2), 2) := by decide +kernel
theorem dX8_jam_38 : decode cX8_jam 38 = .ok (.ireturn, 1) := by decide +kernel
theorem dX8_burns_0 : decode cX8_burns 0 = .ok (.aload_n 0, 1) := by decide +kernel
theorem dX8_burns_1 : decode cX8_burns 1 = .ok (.iload_n 1, 1) := by decide +kernel
theorem dX8_burns_2 : decode cX8_burns 2 = .ok (.invokevirtual 76, 3) := by decide +kernel
theorem dX8_burns_5 : decode cX8_burns 5 = .ok (.ifCond .ne 5, 3) := by decide +kernel
theorem dX8_burns_8 : decode cX8_burns 8 = .ok (.iconst (-1), 1) := by decide +kernel
theorem dX8_burns_9 : decode cX8_burns 9 = .ok (.ireturn, 1) := by decide +kernel
theorem dX8_burns_10 : decode cX8_burns 10 = .ok (.iload_n 2, 1) := by decide +kernel
theorem dX8_burns_11 : decode cX8_burns 11 = .ok (.bipush 10, 2) := by decide +kernel
theorem dX8_burns_13 : decode cX8_burns 13 = .ok (.invokestatic 50, 3) := by decide +kernel
theorem dX8_burns_16 : decode cX8_burns 16 = .ok (.ifCond .eq 19, 3) := by decide +kernel
theorem dX8_burns_19 : decode cX8_burns 19 = .ok (.aload_n 0, 1) := by decide +kernel
theorem dX8_burns_20 : decode cX8_burns 20 = .ok (.getfield 20, 3) := by decide +kernel
theorem dX8_burns_23 : decode cX8_burns 23 = .ok (.getfield 80, 3) := by decide +kernel
theorem dX8_burns_26 : decode cX8_burns 26 = .ok (.iload_n 1, 1) := by decide +kernel
theorem dX8_burns_27 : decode cX8_burns 27 = .ok (.aaload, 1) := by decide +kernel
theorem dX8_burns_28 : decode cX8_burns 28 = .ok (.iload_n 2, 1) := by decide +kernel
theorem dX8_burns_29 : decode cX8_burns 29 = .ok (.invokevirtual 106, 3) := by decide +kernel
theorem dX8_burns_32 : decode cX8_burns 32 = .ok (.goto 5, 3) := by decide +kernel
theorem dX8_burns_35 : decode cX8_burns 35 = .ok (.bipush (-2), 2) := by decide +kernel
theorem dX8_burns_37 : decode cX8_burns 37 = .ok (.ireturn, 1) := by decide +kernel
theorem dX8_digits_0 : decode cX8_digits 0 = .ok (.aload_n 0, 1) := by decide +kernel
theorem dX8_digits_1 : decode cX8_digits 1 = .ok (.iload_n 1, 1) := by decide +kernel
theorem dX8_digits_2 : decode cX8_digits 2 = .ok (.invokevirtual 76, 3) := by decide +kernel
theorem dX8_digits_5 : decode cX8_digits 5 = .ok (.ifCond .ne 5, 3) := by decide +kernel
theorem dX8_digits_8 : decode cX8_digits 8 = .ok (.iconst (-1), 1) := by decide +kernel
theorem dX8_digits_9 : decode cX8_digits 9 = .ok (.ireturn, 1) := by decide +kernel
theorem dX8_digits_10 : decode cX8_digits 10 = .ok (.iload_n 2, 1) := by decide +kernel
theorem dX8_digits_11 : decode cX8_digits 11 = .ok (.sipush 128, 3) := by decide +kernel
theorem dX8_digits_14 : decode cX8_digits 14 = .ok (.invokestatic 50, 3) := by decide +kernel
theorem dX8_digits_17 : decode cX8_digits 17 = .ok (.ifCond .eq 19, 3) := by decide +kernel
theorem dX8_digits_20 : decode cX8_digits 20 = .ok (.aload_n 0, 1) := by decide +kernel
theorem dX8_digits_21 : decode cX8_digits 21 = .ok (.getfield 20, 3) := by decide +kernel
theorem dX8_digits_24 : decode cX8_digits 24 = .ok (.getfield 80, 3) := by decide +kernel
theorem dX8_digits_27 : decode cX8_digits 27 = .ok (.iload_n 1, 1) := by decide +kernel
theorem dX8_digits_28 : decode cX8_digits 28 = .ok (.aaload, 1) := by decide +kernel
theorem dX8_digits_29 : decode cX8_digits 29 = .ok (.iload_n 2, 1) := by decide +kernel
theorem dX8_digits_30 : decode cX8_digits 30 = .ok (.invokevirtual 119, 3) := by decide +kernel
theorem dX8_digits_33 : decode cX8_digits 33 = .ok (.goto 5, 3) := by decide +kernel
theorem dX8_digits_36 : decode cX8_digits 36 = .ok (.bipush (-2), 2) := by decide +kernel
theorem dX8_digits_38 : decode cX8_digits 38 = .ok (.ireturn, 1) := by decide +kernel
theorem dX8_bars_0 : decode cX8_bars 0 = .ok (.aload_n 0, 1) := by decide +kernel
theorem dX8_bars_1 : decode cX8_bars 1 = .ok (.getfield 20, 3) := by decide +kernel
theorem dX8_bars_4 : decode cX8_bars 4 = .ok (.invokevirtual 122, 3) := by decide +kernel
theorem dX8_bars_7 : decode cX8_bars 7 = .ok (.ifCond .eq 6, 3) := by decide +kernel
theorem dX8_bars_10 : decode cX8_bars 10 = .ok (.bipush (-3), 2) := by decide +kernel
theorem dX8_bars_12 : decode cX8_bars 12 = .ok (.ireturn, 1) := by decide +kernel
theorem dX8_bars_13 : decode cX8_bars 13 = .ok (.aload_n 0, 1) := by decide +kernel
theorem dX8_bars_14 : decode cX8_bars 14 = .ok (.getfield 20, 3) := by decide +kernel
theorem dX8_bars_17 : decode cX8_bars 17 = .ok (.iload_n 1, 1) := by decide +kernel
theorem dX8_bars_18 : decode cX8_bars 18 = .ok (.invokevirtual 126, 3) := by decide +kernel
theorem dX8_bars_21 : decode cX8_bars 21 = .ok (.ifCond .eq 14, 3) := by decide +kernel
theorem dX8_bars_24 : decode cX8_bars 24 = .ok (.aload_n 0, 1) := by decide +kernel
theorem dX8_bars_25 : decode cX8_bars 25 = .ok (.getfield 20, 3) := by decide +kernel
theorem dX8_bars_28 : decode cX8_bars 28 = .ok (.iload_n 1, 1) := by decide +kernel
theorem dX8_bars_29 : decode cX8_bars 29 = .ok (.invokevirtual 129, 3) := by decide +kernel
theorem dX8_bars_32 : decode cX8_bars 32 = .ok (.goto 5, 3) := by decide +kernel
theorem dX8_bars_35 : decode cX8_bars 35 = .ok (.bipush (-2), 2) := by decide +kernel
theorem dX8_bars_37 : decode cX8_bars 37 = .ok (.ireturn, 1) := by decide +kernel
theorem dX8_alike_0 : decode cX8_alike 0 = .ok (.aload_n 0, 1) := by decide +kernel
theorem dX8_alike_1 : decode cX8_alike 1 = .ok (.getfield 20, 3) := by decide +kernel
theorem dX8_alike_4 : decode cX8_alike 4 = .ok (.invokevirtual 122, 3) := by decide +kernel
theorem dX8_alike_7 : decode cX8_alike 7 = .ok (.ifCond .eq 6, 3) := by decide +kernel
theorem dX8_alike_10 : decode cX8_alike 10 = .ok (.bipush (-3), 2) := by decide +kernel
theorem dX8_alike_12 : decode cX8_alike 12 = .ok (.ireturn, 1) := by decide +kernel
theorem dX8_alike_13 : decode cX8_alike 13 = .ok (.aload_n 0, 1) := by decide +kernel
theorem dX8_alike_14 : decode cX8_alike 14 = .ok (.getfield 20, 3) := by decide +kernel
theorem dX8_alike_17 : decode cX8_alike 17 = .ok (.iload_n 1, 1) := by decide +kernel
theorem dX8_alike_18 : decode cX8_alike 18 = .ok (.invokevirtual 126, 3) := by decide +kernel
theorem dX8_alike_21 : decode cX8_alike 21 = .ok (.ifCond .eq 14, 3) := by decide +kernel
theorem dX8_alike_24 : decode cX8_alike 24 = .ok (.aload_n 0, 1) := by decide +kernel
theorem dX8_alike_25 : decode cX8_alike 25 = .ok (.getfield 20, 3) := by decide +kernel
theorem dX8_alike_28 : decode cX8_alike 28 = .ok (.iload_n 1, 1) := by decide +kernel
theorem dX8_alike_29 : decode cX8_alike 29 = .ok (.invokevirtual 132, 3) := by decide +kernel
theorem dX8_alike_32 : decode cX8_alike 32 = .ok (.goto 5, 3) := by decide +kernel
theorem dX8_alike_35 : decode cX8_alike 35 = .ok (.bipush (-2), 2) := by decide +kernel
theorem dX8_alike_37 : decode cX8_alike 37 = .ok (.ireturn, 1) := by decide +kernel
theorem dX8_which_0 : decode cX8_which 0 = .ok (.aload_n 0, 1) := by decide +kernel
theorem dX8_which_1 : decode cX8_which 1 = .ok (.getfield 20, 3) := by decide +kernel
theorem dX8_which_4 : decode cX8_which 4 = .ok (.invokevirtual 122, 3) := by decide +kernel
theorem dX8_which_7 : decode cX8_which 7 = .ok (.ifCond .eq 6, 3) := by decide +kernel
theorem dX8_which_10 : decode cX8_which 10 = .ok (.bipush (-3), 2) := by decide +kernel
theorem dX8_which_12 : decode cX8_which 12 = .ok (.ireturn, 1) := by decide +kernel
theorem dX8_which_13 : decode cX8_which 13 = .ok (.aload_n 0, 1) := by decide +kernel
theorem dX8_which_14 : decode cX8_which 14 = .ok (.getfield 20, 3) := by decide +kernel
theorem dX8_which_17 : decode cX8_which 17 = .ok (.iload_n 1, 1) := by decide +kernel
theorem dX8_which_18 : decode cX8_which 18 = .ok (.invokevirtual 126, 3) := by decide +kernel
theorem dX8_which_21 : decode cX8_which 21 = .ok (.ifCond .eq 25, 3) := by decide +kernel
theorem dX8_which_24 : decode cX8_which 24 = .ok (.iload_n 2, 1) := by decide +kernel
theorem dX8_which_25 : decode cX8_which 25 = .ok (.sipush 10000, 3) := by decide +kernel
theorem dX8_which_28 : decode cX8_which 28 = .ok (.invokestatic 50, 3) := by decide +kernel
theorem dX8_which_31 : decode cX8_which 31 = .ok (.ifCond .eq 15, 3) := by decide +kernel
theorem dX8_which_34 : decode cX8_which 34 = .ok (.aload_n 0, 1) := by decide +kernel
theorem dX8_which_35 : decode cX8_which 35 = .ok (.getfield 20, 3) := by decide +kernel
theorem dX8_which_38 : decode cX8_which 38 = .ok (.iload_n 1, 1) := by decide +kernel
theorem dX8_which_39 : decode cX8_which 39 = .ok (.iload_n 2, 1) := by decide +kernel
theorem dX8_which_40 : decode cX8_which 40 = .ok (.invokevirtual 135, 3) := by decide +kernel
theorem dX8_which_43 : decode cX8_which 43 = .ok (.goto 5, 3) := by decide +kernel
theorem dX8_which_46 : decode cX8_which 46 = .ok (.bipush (-2), 2) := by decide +kernel
theorem dX8_which_48 : decode cX8_which 48 = .ok (.ireturn, 1) := by decide +kernel
theorem dX8_flips_0 : decode cX8_flips 0 = .ok (.aload_n 0, 1) := by decide +kernel
theorem dX8_flips_1 : decode cX8_flips 1 = .ok (.getfield 20, 3) := by decide +kernel
theorem dX8_flips_4 : decode cX8_flips 4 = .ok (.invokevirtual 122, 3) := by decide +kernel
theorem dX8_flips_7 : decode cX8_flips 7 = .ok (.ifCond .eq 6, 3) := by decide +kernel
theorem dX8_flips_10 : decode cX8_flips 10 = .ok (.bipush (-3), 2) := by decide +kernel
theorem dX8_flips_12 : decode cX8_flips 12 = .ok (.ireturn, 1) := by decide +kernel
theorem dX8_flips_13 : decode cX8_flips 13 = .ok (.aload_n 0, 1) := by decide +kernel
theorem dX8_flips_14 : decode cX8_flips 14 = .ok (.getfield 20, 3) := by decide +kernel
theorem dX8_flips_17 : decode cX8_flips 17 = .ok (.iload_n 1, 1) := by decide +kernel
theorem dX8_flips_18 : decode cX8_flips 18 = .ok (.invokevirtual 126, 3) := by decide +kernel
theorem dX8_flips_21 : decode cX8_flips 21 = .ok (.ifCond .eq 26, 3) := by decide +kernel
theorem dX8_flips_24 : decode cX8_flips 24 = .ok (.aload_n 0, 1) := by decide +kernel
theorem dX8_flips_25 : decode cX8_flips 25 = .ok (.getfield 20, 3) := by decide +kernel
theorem dX8_flips_28 : decode cX8_flips 28 = .ok (.iload_n 2, 1) := by decide +kernel
theorem dX8_flips_29 : decode cX8_flips 29 = .ok (.invokevirtual 126, 3) := by decide +kernel
theorem dX8_flips_32 : decode cX8_flips 32 = .ok (.ifCond .eq 15, 3) := by decide +kernel
theorem dX8_flips_35 : decode cX8_flips 35 = .ok (.aload_n 0, 1) := by decide +kernel
theorem dX8_flips_36 : decode cX8_flips 36 = .ok (.getfield 20, 3) := by decide +kernel
theorem dX8_flips_39 : decode cX8_flips 39 = .ok (.iload_n 1, 1) := by decide +kernel
theorem dX8_flips_40 : decode cX8_flips 40 = .ok (.iload_n 2, 1) := by decide +kernel
theorem dX8_flips_41 : decode cX8_flips 41 = .ok (.invokevirtual 138, 3) := by decide +kernel
theorem dX8_flips_44 : decode cX8_flips 44 = .ok (.goto 5, 3) := by decide +kernel
theorem dX8_flips_47 : decode cX8_flips 47 = .ok (.bipush (-2), 2) := by decide +kernel
theorem dX8_flips_49 : decode cX8_flips 49 = .ok (.ireturn, 1) := by decide +kernel
theorem dX8_counting_0 : decode cX8_counting 0 = .ok (.aload_n 0, 1) := by decide +kernel
theorem dX8_counting_1 : decode cX8_counting 1 = .ok (.getfield 20, 3) := by decide +kernel
theorem dX8_counting_4 : decode cX8_counting 4 = .ok (.invokevirtual 122, 3) := by decide +kernel
theorem dX8_counting_7 : decode cX8_counting 7 = .ok (.ifCond .eq 6, 3) := by decide +kernel
theorem dX8_counting_10 : decode cX8_counting 10 = .ok (.bipush (-3), 2) := by decide +kernel
theorem dX8_counting_12 : decode cX8_counting 12 = .ok (.ireturn, 1) := by decide +kernel
theorem dX8_counting_13 : decode cX8_counting 13 = .ok (.aload_n 0, 1) := by decide +kernel
theorem dX8_counting_14 : decode cX8_counting 14 = .ok (.getfield 20, 3) := by decide +kernel
theorem dX8_counting_17 : decode cX8_counting 17 = .ok (.iload_n 1, 1) := by decide +kernel
theorem dX8_counting_18 : decode cX8_counting 18 = .ok (.invokevirtual 126, 3) := by decide +kernel
theorem dX8_counting_21 : decode cX8_counting 21 = .ok (.ifCond .eq 27, 3) := by decide +kernel
theorem dX8_counting_24 : decode cX8_counting 24 = .ok (.aload_n 0, 1) := by decide +kernel
theorem dX8_counting_25 : decode cX8_counting 25 = .ok (.getfield 20, 3) := by decide +kernel
theorem dX8_counting_28 : decode cX8_counting 28 = .ok (.iload_n 2, 1) := by decide +kernel
theorem dX8_counting_29 : decode cX8_counting 29 = .ok (.invokevirtual 126, 3) := by decide +kernel
theorem dX8_counting_32 : decode cX8_counting 32 = .ok (.ifCond .eq 16, 3) := by decide +kernel
theorem dX8_counting_35 : decode cX8_counting 35 = .ok (.iload_n 2, 1) := by decide +kernel
theorem dX8_counting_36 : decode cX8_counting 36 = .ok (.iload_n 1, 1) := by decide +kernel
theorem dX8_counting_37 : decode cX8_counting 37 = .ok (.if_icmp .lt 11, 3) := by decide +kernel
theorem dX8_counting_40 : decode cX8_counting 40 = .ok (.iload_n 3, 1) := by decide +kernel
theorem dX8_counting_41 : decode cX8_counting 41 = .ok (.iconst 3, 1) := by decide +kernel
theorem dX8_counting_42 : decode cX8_counting 42 = .ok (.invokestatic 50, 3) := by decide +kernel
theorem dX8_counting_45 : decode cX8_counting 45 = .ok (.ifCond .ne 6, 3) := by decide +kernel
theorem dX8_counting_48 : decode cX8_counting 48 = .ok (.bipush (-2), 2) := by decide +kernel
theorem dX8_counting_50 : decode cX8_counting 50 = .ok (.ireturn, 1) := by decide +kernel
theorem dX8_counting_51 : decode cX8_counting 51 = .ok (.iconst 0, 1) := by decide +kernel
theorem dX8_counting_52 : decode cX8_counting 52 = .ok (.istore 4, 2) := by decide +kernel
theorem dX8_counting_54 : decode cX8_counting 54 = .ok (.iconst 0, 1) := by decide +kernel
theorem dX8_counting_55 : decode cX8_counting 55 = .ok (.istore 5, 2) := by decide +kernel
theorem dX8_counting_57 : decode cX8_counting 57 = .ok (.iconst 0, 1) := by decide +kernel
theorem dX8_counting_58 : decode cX8_counting 58 = .ok (.istore 6, 2) := by decide +kernel
theorem dX8_counting_60 : decode cX8_counting 60 = .ok (.iload_n 1, 1) := by decide +kernel
theorem dX8_counting_61 : decode cX8_counting 61 = .ok (.istore 7, 2) := by decide +kernel
theorem dX8_counting_63 : decode cX8_counting 63 = .ok (.iload 7, 2) := by decide +kernel
theorem dX8_counting_65 : decode cX8_counting 65 = .ok (.iload_n 2, 1) := by decide +kernel
theorem dX8_counting_66 : decode cX8_counting 66 = .ok (.if_icmp .ge 51, 3) := by decide +kernel
theorem dX8_counting_69 : decode cX8_counting 69 = .ok (.aload_n 0, 1) := by decide +kernel
theorem dX8_counting_70 : decode cX8_counting 70 = .ok (.getfield 20, 3) := by decide +kernel
theorem dX8_counting_73 : decode cX8_counting 73 = .ok (.iload 7, 2) := by decide +kernel
theorem dX8_counting_75 : decode cX8_counting 75 = .ok (.invokevirtual 141, 3) := by decide +kernel
theorem dX8_counting_78 : decode cX8_counting 78 = .ok (.istore 8, 2) := by decide +kernel
theorem dX8_counting_80 : decode cX8_counting 80 = .ok (.iload 4, 2) := by decide +kernel
theorem dX8_counting_82 : decode cX8_counting 82 = .ok (.iload 8, 2) := by decide +kernel
theorem dX8_counting_84 : decode cX8_counting 84 = .ok (.ifCond .ne 7, 3) := by decide +kernel
theorem dX8_counting_87 : decode cX8_counting 87 = .ok (.iconst 1, 1) := by decide +kernel
theorem dX8_counting_88 : decode cX8_counting 88 = .ok (.goto 4, 3) := by decide +kernel
theorem dX8_counting_91 : decode cX8_counting 91 = .ok (.iconst 0, 1) := by decide +kernel
theorem dX8_counting_92 : decode cX8_counting 92 = .ok (.iadd, 1) := by decide +kernel
theorem dX8_counting_93 : decode cX8_counting 93 = .ok (.istore 4, 2) := by decide +kernel
theorem dX8_counting_95 : decode cX8_counting 95 = .ok (.iload 5, 2) := by decide +kernel
theorem dX8_counting_97 : decode cX8_counting 97 = .ok (.iload 8, 2) := by decide +kernel
theorem dX8_counting_99 : decode cX8_counting 99 = .ok (.iadd, 1) := by decide +kernel
theorem dX8_counting_100 : decode cX8_counting 100 = .ok (.istore 5, 2) := by decide +kernel
theorem dX8_counting_102 : decode cX8_counting 102 = .ok (.iload 6, 2) := by decide +kernel
theorem dX8_counting_104 : decode cX8_counting 104 = .ok (.iload 8, 2) := by decide +kernel
theorem dX8_counting_106 : decode cX8_counting 106 = .ok (.invokestatic 144, 3) := by decide +kernel
theorem dX8_counting_109 : decode cX8_counting 109 = .ok (.istore 6, 2) := by decide +kernel
theorem dX8_counting_111 : decode cX8_counting 111 = .ok (.iinc 7 1, 3) := by decide +kernel
theorem dX8_counting_114 : decode cX8_counting 114 = .ok (.goto (-51), 3) := by decide +kernel
theorem dX8_counting_117 : decode cX8_counting 117 = .ok (.iload_n 3, 1) := by decide +kernel
theorem dX8_counting_118 : decode cX8_counting 118 = .ok (.iload 4, 2) := by decide +kernel
theorem dX8_counting_120 : decode cX8_counting 120 = .ok (.iload 5, 2) := by decide +kernel
theorem dX8_counting_122 : decode cX8_counting 122 = .ok (.iload 6, 2) := by decide +kernel
theorem dX8_counting_124 : decode cX8_counting 124 = .ok (.invokestatic 149, 3) := by decide +kernel
theorem dX8_counting_127 : decode cX8_counting 127 = .ok (.ireturn, 1) := by decide +kernel
theorem dX8_near_0 : decode cX8_near 0 = .ok (.aload_n 0, 1) := by decide +kernel
theorem dX8_near_1 : decode cX8_near 1 = .ok (.getfield 20, 3) := by decide +kernel
theorem dX8_near_4 : decode cX8_near 4 = .ok (.invokevirtual 122, 3) := by decide +kernel
theorem dX8_near_7 : decode cX8_near 7 = .ok (.ifCond .eq 6, 3) := by decide +kernel
theorem dX8_near_10 : decode cX8_near 10 = .ok (.bipush (-3), 2) := by decide +kernel
theorem dX8_near_12 : decode cX8_near 12 = .ok (.ireturn, 1) := by decide +kernel
theorem dX8_near_13 : decode cX8_near 13 = .ok (.aload_n 0, 1) := by decide +kernel
theorem dX8_near_14 : decode cX8_near 14 = .ok (.getfield 20, 3) := by decide +kernel
theorem dX8_near_17 : decode cX8_near 17 = .ok (.iload_n 1, 1) := by decide +kernel
theorem dX8_near_18 : decode cX8_near 18 = .ok (.invokevirtual 126, 3) := by decide +kernel
theorem dX8_near_21 : decode cX8_near 21 = .ok (.ifCond .eq 11, 3) := by decide +kernel
theorem dX8_near_24 : decode cX8_near 24 = .ok (.iload_n 2, 1) := by decide +kernel
theorem dX8_near_25 : decode cX8_near 25 = .ok (.iconst 2, 1) := by decide +kernel
theorem dX8_near_26 : decode cX8_near 26 = .ok (.invokestatic 50, 3) := by decide +kernel
theorem dX8_near_29 : decode cX8_near 29 = .ok (.ifCond .ne 6, 3) := by decide +kernel
theorem dX8_near_32 : decode cX8_near 32 = .ok (.bipush (-2), 2) := by decide +kernel
theorem dX8_near_34 : decode cX8_near 34 = .ok (.ireturn, 1) := by decide +kernel
theorem dX8_near_35 : decode cX8_near 35 = .ok (.aload_n 0, 1) := by decide +kernel
theorem dX8_near_36 : decode cX8_near 36 = .ok (.getfield 20, 3) := by decide +kernel
theorem dX8_near_39 : decode cX8_near 39 = .ok (.iload_n 1, 1) := by decide +kernel
theorem dX8_near_40 : decode cX8_near 40 = .ok (.invokevirtual 153, 3) := by decide +kernel
theorem dX8_near_43 : decode cX8_near 43 = .ok (.istore_n 3, 1) := by decide +kernel
theorem dX8_near_44 : decode cX8_near 44 = .ok (.iload_n 2, 1) := by decide +kernel
theorem dX8_near_45 : decode cX8_near 45 = .ok (.ifCond .ne 15, 3) := by decide +kernel
theorem dX8_near_48 : decode cX8_near 48 = .ok (.aload_n 0, 1) := by decide +kernel
theorem dX8_near_49 : decode cX8_near 49 = .ok (.getfield 20, 3) := by decide +kernel
theorem dX8_near_52 : decode cX8_near 52 = .ok (.iload_n 1, 1) := by decide +kernel
theorem dX8_near_53 : decode cX8_near 53 = .ok (.iload_n 3, 1) := by decide +kernel
theorem dX8_near_54 : decode cX8_near 54 = .ok (.invokevirtual 138, 3) := by decide +kernel
theorem dX8_near_57 : decode cX8_near 57 = .ok (.goto 4, 3) := by decide +kernel
theorem dX8_near_60 : decode cX8_near 60 = .ok (.iload_n 3, 1) := by decide +kernel
theorem dX8_near_61 : decode cX8_near 61 = .ok (.ireturn, 1) := by decide +kernel
theorem dX8_pictures_0 : decode cX8_pictures 0 = .ok (.aload_n 0, 1) := by decide +kernel
theorem dX8_pictures_1 : decode cX8_pictures 1 = .ok (.getfield 20, 3) := by decide +kernel
theorem dX8_pictures_4 : decode cX8_pictures 4 = .ok (.invokevirtual 122, 3) := by decide +kernel
theorem dX8_pictures_7 : decode cX8_pictures 7 = .ok (.ifCond .eq 8, 3) := by decide +kernel
theorem dX8_pictures_10 : decode cX8_pictures 10 = .ok (.bipush (-3), 2) := by decide +kernel
theorem dX8_pictures_12 : decode cX8_pictures 12 = .ok (.goto 10, 3) := by decide +kernel
theorem dX8_pictures_15 : decode cX8_pictures 15 = .ok (.aload_n 0, 1) := by decide +kernel
theorem dX8_pictures_16 : decode cX8_pictures 16 = .ok (.getfield 20, 3) := by decide +kernel
theorem dX8_pictures_19 : decode cX8_pictures 19 = .ok (.invokevirtual 156, 3) := by decide +kernel
theorem dX8_pictures_22 : decode cX8_pictures 22 = .ok (.ireturn, 1) := by decide +kernel
theorem dX8_go_0 : decode cX8_go 0 = .ok (.aload_n 0, 1) := by decide +kernel
theorem dX8_go_1 : decode cX8_go 1 = .ok (.getfield 20, 3) := by decide +kernel
theorem dX8_go_4 : decode cX8_go 4 = .ok (.invokevirtual 122, 3) := by decide +kernel
theorem dX8_go_7 : decode cX8_go 7 = .ok (.ifCond .eq 6, 3) := by decide +kernel
theorem dX8_go_10 : decode cX8_go 10 = .ok (.bipush (-3), 2) := by decide +kernel
theorem dX8_go_12 : decode cX8_go 12 = .ok (.ireturn, 1) := by decide +kernel
theorem dX8_go_13 : decode cX8_go 13 = .ok (.iload_n 1, 1) := by decide +kernel
theorem dX8_go_14 : decode cX8_go 14 = .ok (.iconst 1, 1) := by decide +kernel
theorem dX8_go_15 : decode cX8_go 15 = .ok (.if_icmp .lt 10, 3) := by decide +kernel
theorem dX8_go_18 : decode cX8_go 18 = .ok (.iload_n 1, 1) := by decide +kernel
theorem dX8_go_19 : decode cX8_go 19 = .ok (.sipush 500, 3) := by decide +kernel
theorem dX8_go_22 : decode cX8_go 22 = .ok (.if_icmp .le 6, 3) := by decide +kernel
theorem dX8_go_25 : decode cX8_go 25 = .ok (.bipush (-2), 2) := by decide +kernel
theorem dX8_go_27 : decode cX8_go 27 = .ok (.ireturn, 1) := by decide +kernel
theorem dX8_go_28 : decode cX8_go 28 = .ok (.iconst 0, 1) := by decide +kernel
theorem dX8_go_29 : decode cX8_go 29 = .ok (.istore_n 2, 1) := by decide +kernel
theorem dX8_go_30 : decode cX8_go 30 = .ok (.iconst 0, 1) := by decide +kernel
theorem dX8_go_31 : decode cX8_go 31 = .ok (.istore_n 3, 1) := by decide +kernel
theorem dX8_go_32 : decode cX8_go 32 = .ok (.iload_n 3, 1) := by decide +kernel
theorem dX8_go_33 : decode cX8_go 33 = .ok (.iload_n 1, 1) := by decide +kernel
theorem dX8_go_34 : decode cX8_go 34 = .ok (.if_icmp .ge 19, 3) := by decide +kernel
theorem dX8_go_37 : decode cX8_go 37 = .ok (.iload_n 2, 1) := by decide +kernel
theorem dX8_go_38 : decode cX8_go 38 = .ok (.aload_n 0, 1) := by decide +kernel
theorem dX8_go_39 : decode cX8_go 39 = .ok (.getfield 20, 3) := by decide +kernel
theorem dX8_go_42 : decode cX8_go 42 = .ok (.invokevirtual 159, 3) := by decide +kernel
theorem dX8_go_45 : decode cX8_go 45 = .ok (.iadd, 1) := by decide +kernel
theorem dX8_go_46 : decode cX8_go 46 = .ok (.istore_n 2, 1) := by decide +kernel
theorem dX8_go_47 : decode cX8_go 47 = .ok (.iinc 3 1, 3) := by decide +kernel
theorem dX8_go_50 : decode cX8_go 50 = .ok (.goto (-18), 3) := by decide +kernel
theorem dX8_go_53 : decode cX8_go 53 = .ok (.iload_n 2, 1) := by decide +kernel
theorem dX8_go_54 : decode cX8_go 54 = .ok (.ireturn, 1) := by decide +kernel
theorem dX8_dies_0 : decode cX8_dies 0 = .ok (.aload_n 0, 1) := by decide +kernel
theorem dX8_dies_1 : decode cX8_dies 1 = .ok (.iload_n 1, 1) := by decide +kernel
theorem dX8_dies_2 : decode cX8_dies 2 = .ok (.invokevirtual 76, 3) := by decide +kernel
theorem dX8_dies_5 : decode cX8_dies 5 = .ok (.ifCond .eq 27, 3) := by decide +kernel
theorem dX8_dies_8 : decode cX8_dies 8 = .ok (.iload_n 2, 1) := by decide +kernel
theorem dX8_dies_9 : decode cX8_dies 9 = .ok (.bipush 7, 2) := by decide +kernel
theorem dX8_dies_11 : decode cX8_dies 11 = .ok (.invokestatic 50, 3) := by decide +kernel
theorem dX8_dies_14 : decode cX8_dies 14 = .ok (.ifCond .eq 18, 3) := by decide +kernel
theorem dX8_dies_17 : decode cX8_dies 17 = .ok (.aload_n 0, 1) := by decide +kernel
theorem dX8_dies_18 : decode cX8_dies 18 = .ok (.getfield 20, 3) := by decide +kernel
theorem dX8_dies_21 : decode cX8_dies 21 = .ok (.iload_n 1, 1) := by decide +kernel
theorem dX8_dies_22 : decode cX8_dies 22 = .ok (.iload_n 2, 1) := by decide +kernel
theorem dX8_dies_23 : decode cX8_dies 23 = .ok (.sipush 1000, 3) := by decide +kernel
theorem dX8_dies_26 : decode cX8_dies 26 = .ok (.invokevirtual 162, 3) := by decide +kernel
theorem dX8_dies_29 : decode cX8_dies 29 = .ok (.goto 4, 3) := by decide +kernel
theorem dX8_dies_32 : decode cX8_dies 32 = .ok (.iconst (-1), 1) := by decide +kernel
theorem dX8_dies_33 : decode cX8_dies 33 = .ok (.ireturn, 1) := by decide +kernel
theorem dX8_first_0 : decode cX8_first 0 = .ok (.iload_n 1, 1) := by decide +kernel
theorem dX8_first_1 : decode cX8_first 1 = .ok (.iconst 3, 1) := by decide +kernel
theorem dX8_first_2 : decode cX8_first 2 = .ok (.invokestatic 50, 3) := by decide +kernel
theorem dX8_first_5 : decode cX8_first 5 = .ok (.ifCond .ne 6, 3) := by decide +kernel
theorem dX8_first_8 : decode cX8_first 8 = .ok (.bipush (-2), 2) := by decide +kernel
theorem dX8_first_10 : decode cX8_first 10 = .ok (.ireturn, 1) := by decide +kernel
theorem dX8_first_11 : decode cX8_first 11 = .ok (.aload_n 0, 1) := by decide +kernel
theorem dX8_first_12 : decode cX8_first 12 = .ok (.getfield 20, 3) := by decide +kernel
theorem dX8_first_15 : decode cX8_first 15 = .ok (.invokevirtual 122, 3) := by decide +kernel
theorem dX8_first_18 : decode cX8_first 18 = .ok (.ifCond .eq 6, 3) := by decide +kernel
theorem dX8_first_21 : decode cX8_first 21 = .ok (.bipush (-3), 2) := by decide +kernel
theorem dX8_first_23 : decode cX8_first 23 = .ok (.ireturn, 1) := by decide +kernel
theorem dX8_first_24 : decode cX8_first 24 = .ok (.bipush (-9), 2) := by decide +kernel
theorem dX8_first_26 : decode cX8_first 26 = .ok (.istore_n 2, 1) := by decide +kernel
theorem dX8_first_27 : decode cX8_first 27 = .ok (.bipush (-9), 2) := by decide +kernel
theorem dX8_first_29 : decode cX8_first 29 = .ok (.istore_n 3, 1) := by decide +kernel
theorem dX8_first_30 : decode cX8_first 30 = .ok (.bipush (-9), 2) := by decide +kernel
theorem dX8_first_32 : decode cX8_first 32 = .ok (.istore 4, 2) := by decide +kernel
theorem dX8_first_34 : decode cX8_first 34 = .ok (.sipush 1000, 3) := by decide +kernel
theorem dX8_first_37 : decode cX8_first 37 = .ok (.istore 5, 2) := by decide +kernel
theorem dX8_first_39 : decode cX8_first 39 = .ok (.iconst 0, 1) := by decide +kernel
theorem dX8_first_40 : decode cX8_first 40 = .ok (.istore 6, 2) := by decide +kernel
theorem dX8_first_42 : decode cX8_first 42 = .ok (.iload 6, 2) := by decide +kernel
theorem dX8_first_44 : decode cX8_first 44 = .ok (.aload_n 0, 1) := by decide +kernel
theorem dX8_first_45 : decode cX8_first 45 = .ok (.getfield 20, 3) := by decide +kernel
theorem dX8_first_48 : decode cX8_first 48 = .ok (.getfield 75, 3) := by decide +kernel
theorem dX8_first_51 : decode cX8_first 51 = .ok (.if_icmp .ge 63, 3) := by decide +kernel
theorem dX8_first_54 : decode cX8_first 54 = .ok (.iconst 0, 1) := by decide +kernel
theorem dX8_first_55 : decode cX8_first 55 = .ok (.istore 7, 2) := by decide +kernel
theorem dX8_first_57 : decode cX8_first 57 = .ok (.iload 7, 2) := by decide +kernel
theorem dX8_first_59 : decode cX8_first 59 = .ok (.bipush 7, 2) := by decide +kernel
theorem dX8_first_61 : decode cX8_first 61 = .ok (.if_icmp .ge 47, 3) := by decide +kernel
theorem dX8_first_64 : decode cX8_first 64 = .ok (.aload_n 0, 1) := by decide +kernel
theorem dX8_first_65 : decode cX8_first 65 = .ok (.getfield 20, 3) := by decide +kernel
theorem dX8_first_68 : decode cX8_first 68 = .ok (.iload 6, 2) := by decide +kernel
theorem dX8_first_70 : decode cX8_first 70 = .ok (.iload 7, 2) := by decide +kernel
theorem dX8_first_72 : decode cX8_first 72 = .ok (.iload 5, 2) := by decide +kernel
theorem dX8_first_74 : decode cX8_first 74 = .ok (.invokevirtual 162, 3) := by decide +kernel
theorem dX8_first_77 : decode cX8_first 77 = .ok (.istore 8, 2) := by decide +kernel
theorem dX8_first_79 : decode cX8_first 79 = .ok (.iload 8, 2) := by decide +kernel
theorem dX8_first_81 : decode cX8_first 81 = .ok (.bipush (-9), 2) := by decide +kernel
theorem dX8_first_83 : decode cX8_first 83 = .ok (.if_icmp .eq 19, 3) := by decide +kernel
theorem dX8_first_86 : decode cX8_first 86 = .ok (.iload 6, 2) := by decide +kernel
theorem dX8_first_88 : decode cX8_first 88 = .ok (.istore_n 2, 1) := by decide +kernel
theorem dX8_first_89 : decode cX8_first 89 = .ok (.iload 7, 2) := by decide +kernel
theorem dX8_first_91 : decode cX8_first 91 = .ok (.istore_n 3, 1) := by decide +kernel
theorem dX8_first_92 : decode cX8_first 92 = .ok (.iload 8, 2) := by decide +kernel
theorem dX8_first_94 : decode cX8_first 94 = .ok (.istore 4, 2) := by decide +kernel
theorem dX8_first_96 : decode cX8_first 96 = .ok (.iload 8, 2) := by decide +kernel
theorem dX8_first_98 : decode cX8_first 98 = .ok (.iconst 1, 1) := by decide +kernel
theorem dX8_first_99 : decode cX8_first 99 = .ok (.isub, 1) := by decide +kernel
theorem dX8_first_100 : decode cX8_first 100 = .ok (.istore 5, 2) := by decide +kernel
theorem dX8_first_102 : decode cX8_first 102 = .ok (.iinc 7 1, 3) := by decide +kernel
theorem dX8_first_105 : decode cX8_first 105 = .ok (.goto (-48), 3) := by decide +kernel
theorem dX8_first_108 : decode cX8_first 108 = .ok (.iinc 6 1, 3) := by decide +kernel
theorem dX8_first_111 : decode cX8_first 111 = .ok (.goto (-69), 3) := by decide +kernel
theorem dX8_first_114 : decode cX8_first 114 = .ok (.iload_n 1, 1) := by decide +kernel
theorem dX8_first_115 : decode cX8_first 115 = .ok (.iload_n 2, 1) := by decide +kernel
theorem dX8_first_116 : decode cX8_first 116 = .ok (.iload_n 3, 1) := by decide +kernel
theorem dX8_first_117 : decode cX8_first 117 = .ok (.iload 4, 2) := by decide +kernel
theorem dX8_first_119 : decode cX8_first 119 = .ok (.invokestatic 149, 3) := by decide +kernel
theorem dX8_first_122 : decode cX8_first 122 = .ok (.ireturn, 1) := by decide +kernel
theorem dX8_seen_0 : decode cX8_seen 0 = .ok (.aload_n 0, 1) := by decide +kernel
theorem dX8_seen_1 : decode cX8_seen 1 = .ok (.iconst 0, 1) := by decide +kernel
theorem dX8_seen_2 : decode cX8_seen 2 = .ok (.putfield 46, 3) := by decide +kernel
theorem dX8_seen_5 : decode cX8_seen 5 = .ok (.iload_n 1, 1) := by decide +kernel
theorem dX8_seen_6 : decode cX8_seen 6 = .ok (.iconst 4, 1) := by decide +kernel
theorem dX8_seen_7 : decode cX8_seen 7 = .ok (.invokestatic 50, 3) := by decide +kernel
theorem dX8_seen_10 : decode cX8_seen 10 = .ok (.ifCond .ne 5, 3) := by decide +kernel
theorem dX8_seen_13 : decode cX8_seen 13 = .ok (.iconst (-1), 1) := by decide +kernel
theorem dX8_seen_14 : decode cX8_seen 14 = .ok (.ireturn, 1) := by decide +kernel
theorem dX8_seen_15 : decode cX8_seen 15 = .ok (.iload_n 2, 1) := by decide +kernel
theorem dX8_seen_16 : decode cX8_seen 16 = .ok (.iconst 3, 1) := by decide +kernel
theorem dX8_seen_17 : decode cX8_seen 17 = .ok (.invokestatic 50, 3) := by decide +kernel
theorem dX8_seen_20 : decode cX8_seen 20 = .ok (.ifCond .eq 32, 3) := by decide +kernel
theorem dX8_seen_23 : decode cX8_seen 23 = .ok (.iload 4, 2) := by decide +kernel
theorem dX8_seen_25 : decode cX8_seen 25 = .ok (.bipush 11, 2) := by decide +kernel
theorem dX8_seen_27 : decode cX8_seen 27 = .ok (.invokestatic 50, 3) := by decide +kernel
theorem dX8_seen_30 : decode cX8_seen 30 = .ok (.ifCond .eq 22, 3) := by decide +kernel
theorem dX8_seen_33 : decode cX8_seen 33 = .ok (.iload 5, 2) := by decide +kernel
theorem dX8_seen_35 : decode cX8_seen 35 = .ok (.bipush 100, 2) := by decide +kernel
theorem dX8_seen_37 : decode cX8_seen 37 = .ok (.invokestatic 50, 3) := by decide +kernel
theorem dX8_seen_40 : decode cX8_seen 40 = .ok (.ifCond .eq 12, 3) := by decide +kernel
theorem dX8_seen_43 : decode cX8_seen 43 = .ok (.iload 6, 2) := by decide +kernel
theorem dX8_seen_45 : decode cX8_seen 45 = .ok (.iconst 3, 1) := by decide +kernel
theorem dX8_seen_46 : decode cX8_seen 46 = .ok (.invokestatic 50, 3) := by decide +kernel
theorem dX8_seen_49 : decode cX8_seen 49 = .ok (.ifCond .ne 6, 3) := by decide +kernel
theorem dX8_seen_52 : decode cX8_seen 52 = .ok (.bipush (-2), 2) := by decide +kernel
theorem dX8_seen_54 : decode cX8_seen 54 = .ok (.ireturn, 1) := by decide +kernel
theorem dX8_seen_55 : decode cX8_seen 55 = .ok (.aload_n 0, 1) := by decide +kernel
theorem dX8_seen_56 : decode cX8_seen 56 = .ok (.getfield 20, 3) := by decide +kernel
theorem dX8_seen_59 : decode cX8_seen 59 = .ok (.invokevirtual 122, 3) := by decide +kernel
theorem dX8_seen_62 : decode cX8_seen 62 = .ok (.ifCond .eq 6, 3) := by decide +kernel
theorem dX8_seen_65 : decode cX8_seen 65 = .ok (.bipush (-3), 2) := by decide +kernel
theorem dX8_seen_67 : decode cX8_seen 67 = .ok (.ireturn, 1) := by decide +kernel
theorem dX8_seen_68 : decode cX8_seen 68 = .ok (.aload_n 0, 1) := by decide +kernel
theorem dX8_seen_69 : decode cX8_seen 69 = .ok (.getfield 13, 3) := by decide +kernel
theorem dX8_seen_72 : decode cX8_seen 72 = .ok (.iload_n 1, 1) := by decide +kernel
theorem dX8_seen_73 : decode cX8_seen 73 = .ok (.aaload, 1) := by decide +kernel
theorem dX8_seen_74 : decode cX8_seen 74 = .ok (.astore 7, 2) := by decide +kernel
theorem dX8_seen_76 : decode cX8_seen 76 = .ok (.aload 7, 2) := by decide +kernel
theorem dX8_seen_78 : decode cX8_seen 78 = .ok (.iload_n 2, 1) := by decide +kernel
theorem dX8_seen_79 : decode cX8_seen 79 = .ok (.iload_n 3, 1) := by decide +kernel
theorem dX8_seen_80 : decode cX8_seen 80 = .ok (.iload 4, 2) := by decide +kernel
theorem dX8_seen_82 : decode cX8_seen 82 = .ok (.aload_n 0, 1) := by decide +kernel
theorem dX8_seen_83 : decode cX8_seen 83 = .ok (.getfield 20, 3) := by decide +kernel
theorem dX8_seen_86 : decode cX8_seen 86 = .ok (.getfield 75, 3) := by decide +kernel
theorem dX8_seen_89 : decode cX8_seen 89 = .ok (.imul, 1) := by decide +kernel
theorem dX8_seen_90 : decode cX8_seen 90 = .ok (.invokevirtual 54, 3) := by decide +kernel
theorem dX8_seen_93 : decode cX8_seen 93 = .ok (.istore 8, 2) := by decide +kernel
theorem dX8_seen_95 : decode cX8_seen 95 = .ok (.iload 8, 2) := by decide +kernel
theorem dX8_seen_97 : decode cX8_seen 97 = .ok (.ifCond .eq 10, 3) := by decide +kernel
theorem dX8_seen_100 : decode cX8_seen 100 = .ok (.aload_n 0, 1) := by decide +kernel
theorem dX8_seen_101 : decode cX8_seen 101 = .ok (.iload 8, 2) := by decide +kernel
theorem dX8_seen_103 : decode cX8_seen 103 = .ok (.invokevirtual 58, 3) := by decide +kernel
theorem dX8_seen_106 : decode cX8_seen 106 = .ok (.ireturn, 1) := by decide +kernel
theorem dX8_seen_107 : decode cX8_seen 107 = .ok (.aload_n 0, 1) := by decide +kernel
theorem dX8_seen_108 : decode cX8_seen 108 = .ok (.getfield 34, 3) := by decide +kernel
theorem dX8_seen_111 : decode cX8_seen 111 = .ok (.aload_n 0, 1) := by decide +kernel
theorem dX8_seen_112 : decode cX8_seen 112 = .ok (.getfield 20, 3) := by decide +kernel
theorem dX8_seen_115 : decode cX8_seen 115 = .ok (.aload 7, 2) := by decide +kernel
theorem dX8_seen_117 : decode cX8_seen 117 = .ok (.iload_n 3, 1) := by decide +kernel
theorem dX8_seen_118 : decode cX8_seen 118 = .ok (.iload 4, 2) := by decide +kernel
theorem dX8_seen_120 : decode cX8_seen 120 = .ok (.invokevirtual 165, 3) := by decide +kernel
theorem dX8_seen_123 : decode cX8_seen 123 = .ok (.ifCond .ne 6, 3) := by decide +kernel
theorem dX8_seen_126 : decode cX8_seen 126 = .ok (.bipush (-2), 2) := by decide +kernel
theorem dX8_seen_128 : decode cX8_seen 128 = .ok (.ireturn, 1) := by decide +kernel
theorem dX8_seen_129 : decode cX8_seen 129 = .ok (.aload_n 0, 1) := by decide +kernel
theorem dX8_seen_130 : decode cX8_seen 130 = .ok (.getfield 34, 3) := by decide +kernel
theorem dX8_seen_133 : decode cX8_seen 133 = .ok (.aload_n 0, 1) := by decide +kernel
theorem dX8_seen_134 : decode cX8_seen 134 = .ok (.getfield 20, 3) := by decide +kernel
theorem dX8_seen_137 : decode cX8_seen 137 = .ok (.iload 5, 2) := by decide +kernel
theorem dX8_seen_139 : decode cX8_seen 139 = .ok (.iload 6, 2) := by decide +kernel
theorem dX8_seen_141 : decode cX8_seen 141 = .ok (.invokevirtual 168, 3) := by decide +kernel
theorem dX8_seen_144 : decode cX8_seen 144 = .ok (.ireturn, 1) := by decide +kernel
theorem dX8_repair_0 : decode cX8_repair 0 = .ok (.aload_n 0, 1) := by decide +kernel
theorem dX8_repair_1 : decode cX8_repair 1 = .ok (.iload_n 1, 1) := by decide +kernel
theorem dX8_repair_2 : decode cX8_repair 2 = .ok (.invokevirtual 76, 3) := by decide +kernel
theorem dX8_repair_5 : decode cX8_repair 5 = .ok (.ifCond .eq 18, 3) := by decide +kernel
theorem dX8_repair_8 : decode cX8_repair 8 = .ok (.aload_n 0, 1) := by decide +kernel
theorem dX8_repair_9 : decode cX8_repair 9 = .ok (.getfield 20, 3) := by decide +kernel
theorem dX8_repair_12 : decode cX8_repair 12 = .ok (.getfield 80, 3) := by decide +kernel
theorem dX8_repair_15 : decode cX8_repair 15 = .ok (.iload_n 1, 1) := by decide +kernel
theorem dX8_repair_16 : decode cX8_repair 16 = .ok (.aaload, 1) := by decide +kernel
theorem dX8_repair_17 : decode cX8_repair 17 = .ok (.invokevirtual 172, 3) := by decide +kernel
theorem dX8_repair_20 : decode cX8_repair 20 = .ok (.goto 4, 3) := by decide +kernel
theorem dX8_repair_23 : decode cX8_repair 23 = .ok (.iconst (-1), 1) := by decide +kernel
theorem dX8_repair_24 : decode cX8_repair 24 = .ok (.ireturn, 1) := by decide +kernel
theorem dX8_order_0 : decode cX8_order 0 = .ok (.aload_n 0, 1) := by decide +kernel
theorem dX8_order_1 : decode cX8_order 1 = .ok (.iconst 0, 1) := by decide +kernel
theorem dX8_order_2 : decode cX8_order 2 = .ok (.putfield 46, 3) := by decide +kernel
theorem dX8_order_5 : decode cX8_order 5 = .ok (.iload_n 1, 1) := by decide +kernel
theorem dX8_order_6 : decode cX8_order 6 = .ok (.iconst 4, 1) := by decide +kernel
theorem dX8_order_7 : decode cX8_order 7 = .ok (.invokestatic 50, 3) := by decide +kernel
theorem dX8_order_10 : decode cX8_order 10 = .ok (.ifCond .ne 5, 3) := by decide +kernel
theorem dX8_order_13 : decode cX8_order 13 = .ok (.iconst (-1), 1) := by decide +kernel
theorem dX8_order_14 : decode cX8_order 14 = .ok (.ireturn, 1) := by decide +kernel
theorem dX8_order_15 : decode cX8_order 15 = .ok (.iload_n 2, 1) := by decide +kernel
theorem dX8_order_16 : decode cX8_order 16 = .ok (.iconst 3, 1) := by decide +kernel
theorem dX8_order_17 : decode cX8_order 17 = .ok (.invokestatic 50, 3) := by decide +kernel
theorem dX8_order_20 : decode cX8_order 20 = .ok (.ifCond .eq 21, 3) := by decide +kernel
theorem dX8_order_23 : decode cX8_order 23 = .ok (.iload 4, 2) := by decide +kernel
theorem dX8_order_25 : decode cX8_order 25 = .ok (.bipush 7, 2) := by decide +kernel
theorem dX8_order_27 : decode cX8_order 27 = .ok (.invokestatic 50, 3) := by decide +kernel
theorem dX8_order_30 : decode cX8_order 30 = .ok (.ifCond .eq 11, 3) := by decide +kernel
theorem dX8_order_33 : decode cX8_order 33 = .ok (.iload 5, 2) := by decide +kernel
theorem dX8_order_35 : decode cX8_order 35 = .ok (.invokestatic 175, 3) := by decide +kernel
theorem dX8_order_38 : decode cX8_order 38 = .ok (.ifCond .ne 6, 3) := by decide +kernel
theorem dX8_order_41 : decode cX8_order 41 = .ok (.bipush (-2), 2) := by decide +kernel
theorem dX8_order_43 : decode cX8_order 43 = .ok (.ireturn, 1) := by decide +kernel
theorem dX8_order_44 : decode cX8_order 44 = .ok (.aload_n 0, 1) := by decide +kernel
theorem dX8_order_45 : decode cX8_order 45 = .ok (.getfield 20, 3) := by decide +kernel
theorem dX8_order_48 : decode cX8_order 48 = .ok (.invokevirtual 122, 3) := by decide +kernel
theorem dX8_order_51 : decode cX8_order 51 = .ok (.ifCond .eq 6, 3) := by decide +kernel
theorem dX8_order_54 : decode cX8_order 54 = .ok (.bipush (-3), 2) := by decide +kernel
theorem dX8_order_56 : decode cX8_order 56 = .ok (.ireturn, 1) := by decide +kernel
theorem dX8_order_57 : decode cX8_order 57 = .ok (.aload_n 0, 1) := by decide +kernel
theorem dX8_order_58 : decode cX8_order 58 = .ok (.getfield 13, 3) := by decide +kernel
theorem dX8_order_61 : decode cX8_order 61 = .ok (.iload_n 1, 1) := by decide +kernel
theorem dX8_order_62 : decode cX8_order 62 = .ok (.aaload, 1) := by decide +kernel
theorem dX8_order_63 : decode cX8_order 63 = .ok (.astore 6, 2) := by decide +kernel
theorem dX8_order_65 : decode cX8_order 65 = .ok (.aload 6, 2) := by decide +kernel
theorem dX8_order_67 : decode cX8_order 67 = .ok (.iload_n 2, 1) := by decide +kernel
theorem dX8_order_68 : decode cX8_order 68 = .ok (.iload_n 3, 1) := by decide +kernel
theorem dX8_order_69 : decode cX8_order 69 = .ok (.iload 4, 2) := by decide +kernel
theorem dX8_order_71 : decode cX8_order 71 = .ok (.invokevirtual 54, 3) := by decide +kernel
theorem dX8_order_74 : decode cX8_order 74 = .ok (.istore 7, 2) := by decide +kernel
theorem dX8_order_76 : decode cX8_order 76 = .ok (.iload 7, 2) := by decide +kernel
theorem dX8_order_78 : decode cX8_order 78 = .ok (.ifCond .eq 10, 3) := by decide +kernel
theorem dX8_order_81 : decode cX8_order 81 = .ok (.aload_n 0, 1) := by decide +kernel
theorem dX8_order_82 : decode cX8_order 82 = .ok (.iload 7, 2) := by decide +kernel
theorem dX8_order_84 : decode cX8_order 84 = .ok (.invokevirtual 58, 3) := by decide +kernel
theorem dX8_order_87 : decode cX8_order 87 = .ok (.ireturn, 1) := by decide +kernel
theorem dX8_order_88 : decode cX8_order 88 = .ok (.aload_n 0, 1) := by decide +kernel
theorem dX8_order_89 : decode cX8_order 89 = .ok (.getfield 41, 3) := by decide +kernel
theorem dX8_order_92 : decode cX8_order 92 = .ok (.aload_n 0, 1) := by decide +kernel
theorem dX8_order_93 : decode cX8_order 93 = .ok (.getfield 20, 3) := by decide +kernel
theorem dX8_order_96 : decode cX8_order 96 = .ok (.aload 6, 2) := by decide +kernel
theorem dX8_order_98 : decode cX8_order 98 = .ok (.iload_n 3, 1) := by decide +kernel
theorem dX8_order_99 : decode cX8_order 99 = .ok (.iload 4, 2) := by decide +kernel
theorem dX8_order_101 : decode cX8_order 101 = .ok (.invokevirtual 178, 3) := by decide +kernel
theorem dX8_order_104 : decode cX8_order 104 = .ok (.ifCond .ne 6, 3) := by decide +kernel
theorem dX8_order_107 : decode cX8_order 107 = .ok (.bipush (-2), 2) := by decide +kernel
theorem dX8_order_109 : decode cX8_order 109 = .ok (.ireturn, 1) := by decide +kernel
theorem dX8_order_110 : decode cX8_order 110 = .ok (.aload_n 0, 1) := by decide +kernel
theorem dX8_order_111 : decode cX8_order 111 = .ok (.getfield 41, 3) := by decide +kernel
theorem dX8_order_114 : decode cX8_order 114 = .ok (.invokevirtual 179, 3) := by decide +kernel
theorem dX8_order_117 : decode cX8_order 117 = .ok (.iload 5, 2) := by decide +kernel
theorem dX8_order_119 : decode cX8_order 119 = .ok (.ifCond .ne 13, 3) := by decide +kernel
theorem dX8_order_122 : decode cX8_order 122 = .ok (.aload_n 0, 1) := by decide +kernel
theorem dX8_order_123 : decode cX8_order 123 = .ok (.getfield 41, 3) := by decide +kernel
theorem dX8_order_126 : decode cX8_order 126 = .ok (.invokevirtual 182, 3) := by decide +kernel
theorem dX8_order_129 : decode cX8_order 129 = .ok (.goto 15, 3) := by decide +kernel
theorem dX8_order_132 : decode cX8_order 132 = .ok (.aload_n 0, 1) := by decide +kernel
theorem dX8_order_133 : decode cX8_order 133 = .ok (.getfield 41, 3) := by decide +kernel
theorem dX8_order_136 : decode cX8_order 136 = .ok (.iload 5, 2) := by decide +kernel
theorem dX8_order_138 : decode cX8_order 138 = .ok (.bipush 10, 2) := by decide +kernel
theorem dX8_order_140 : decode cX8_order 140 = .ok (.isub, 1) := by decide +kernel
theorem dX8_order_141 : decode cX8_order 141 = .ok (.invokevirtual 185, 3) := by decide +kernel
theorem dX8_order_144 : decode cX8_order 144 = .ok (.ireturn, 1) := by decide +kernel
theorem dX8_reading_0 : decode cX8_reading 0 = .ok (.aload_n 0, 1) := by decide +kernel
theorem dX8_reading_1 : decode cX8_reading 1 = .ok (.iload_n 1, 1) := by decide +kernel
theorem dX8_reading_2 : decode cX8_reading 2 = .ok (.invokevirtual 76, 3) := by decide +kernel
theorem dX8_reading_5 : decode cX8_reading 5 = .ok (.ifCond .ne 5, 3) := by decide +kernel
theorem dX8_reading_8 : decode cX8_reading 8 = .ok (.iconst (-1), 1) := by decide +kernel
theorem dX8_reading_9 : decode cX8_reading 9 = .ok (.ireturn, 1) := by decide +kernel
theorem dX8_reading_10 : decode cX8_reading 10 = .ok (.iload_n 2, 1) := by decide +kernel
theorem dX8_reading_11 : decode cX8_reading 11 = .ok (.bipush 10, 2) := by decide +kernel
theorem dX8_reading_13 : decode cX8_reading 13 = .ok (.invokestatic 50, 3) := by decide +kernel
theorem dX8_reading_16 : decode cX8_reading 16 = .ok (.ifCond .eq 13, 3) := by decide +kernel
theorem dX8_reading_19 : decode cX8_reading 19 = .ok (.iload_n 3, 1) := by decide +kernel
theorem dX8_reading_20 : decode cX8_reading 20 = .ok (.sipush 128, 3) := by decide +kernel
theorem dX8_reading_23 : decode cX8_reading 23 = .ok (.invokestatic 50, 3) := by decide +kernel
theorem dX8_reading_26 : decode cX8_reading 26 = .ok (.ifCond .ne 6, 3) := by decide +kernel
theorem dX8_reading_29 : decode cX8_reading 29 = .ok (.bipush (-2), 2) := by decide +kernel
theorem dX8_reading_31 : decode cX8_reading 31 = .ok (.ireturn, 1) := by decide +kernel
theorem dX8_reading_32 : decode cX8_reading 32 = .ok (.aload_n 0, 1) := by decide +kernel
theorem dX8_reading_33 : decode cX8_reading 33 = .ok (.getfield 27, 3) := by decide +kernel
theorem dX8_reading_36 : decode cX8_reading 36 = .ok (.iload_n 1, 1) := by decide +kernel
theorem dX8_reading_37 : decode cX8_reading 37 = .ok (.iload_n 2, 1) := by decide +kernel
theorem dX8_reading_38 : decode cX8_reading 38 = .ok (.iload_n 3, 1) := by decide +kernel
theorem dX8_reading_39 : decode cX8_reading 39 = .ok (.invokevirtual 188, 3) := by decide +kernel
theorem dX8_reading_42 : decode cX8_reading 42 = .ok (.ireturn, 1) := by decide +kernel
theorem dX8_back_0 : decode cX8_back 0 = .ok (.iload_n 1, 1) := by decide +kernel
theorem dX8_back_1 : decode cX8_back 1 = .ok (.ifCond .lt 14, 3) := by decide +kernel
theorem dX8_back_4 : decode cX8_back 4 = .ok (.iload_n 1, 1) := by decide +kernel
theorem dX8_back_5 : decode cX8_back 5 = .ok (.aload_n 0, 1) := by decide +kernel
theorem dX8_back_6 : decode cX8_back 6 = .ok (.getfield 27, 3) := by decide +kernel
theorem dX8_back_9 : decode cX8_back 9 = .ok (.getfield 72, 3) := by decide +kernel
theorem dX8_back_12 : decode cX8_back 12 = .ok (.if_icmp .le 6, 3) := by decide +kernel
theorem dX8_back_15 : decode cX8_back 15 = .ok (.bipush (-2), 2) := by decide +kernel
theorem dX8_back_17 : decode cX8_back 17 = .ok (.ireturn, 1) := by decide +kernel
theorem dX8_back_18 : decode cX8_back 18 = .ok (.aload_n 0, 1) := by decide +kernel
theorem dX8_back_19 : decode cX8_back 19 = .ok (.getfield 27, 3) := by decide +kernel
theorem dX8_back_22 : decode cX8_back 22 = .ok (.dup, 1) := by decide +kernel
theorem dX8_back_23 : decode cX8_back 23 = .ok (.getfield 72, 3) := by decide +kernel
theorem dX8_back_26 : decode cX8_back 26 = .ok (.iload_n 1, 1) := by decide +kernel
theorem dX8_back_27 : decode cX8_back 27 = .ok (.isub, 1) := by decide +kernel
theorem dX8_back_28 : decode cX8_back 28 = .ok (.putfield 72, 3) := by decide +kernel
theorem dX8_back_31 : decode cX8_back 31 = .ok (.aload_n 0, 1) := by decide +kernel
theorem dX8_back_32 : decode cX8_back 32 = .ok (.getfield 27, 3) := by decide +kernel
theorem dX8_back_35 : decode cX8_back 35 = .ok (.getfield 72, 3) := by decide +kernel
theorem dX8_back_38 : decode cX8_back 38 = .ok (.ireturn, 1) := by decide +kernel
theorem dX8_deads_0 : decode cX8_deads 0 = .ok (.aload_n 0, 1) := by decide +kernel
theorem dX8_deads_1 : decode cX8_deads 1 = .ok (.iload_n 1, 1) := by decide +kernel
theorem dX8_deads_2 : decode cX8_deads 2 = .ok (.invokevirtual 76, 3) := by decide +kernel
theorem dX8_deads_5 : decode cX8_deads 5 = .ok (.ifCond .ne 5, 3) := by decide +kernel
theorem dX8_deads_8 : decode cX8_deads 8 = .ok (.iconst (-1), 1) := by decide +kernel
theorem dX8_deads_9 : decode cX8_deads 9 = .ok (.ireturn, 1) := by decide +kernel
theorem dX8_deads_10 : decode cX8_deads 10 = .ok (.iload_n 2, 1) := by decide +kernel
theorem dX8_deads_11 : decode cX8_deads 11 = .ok (.iconst 4, 1) := by decide +kernel
theorem dX8_deads_12 : decode cX8_deads 12 = .ok (.invokestatic 50, 3) := by decide +kernel
theorem dX8_deads_15 : decode cX8_deads 15 = .ok (.ifCond .ne 6, 3) := by decide +kernel
theorem dX8_deads_18 : decode cX8_deads 18 = .ok (.bipush (-2), 2) := by decide +kernel
theorem dX8_deads_20 : decode cX8_deads 20 = .ok (.ireturn, 1) := by decide +kernel
theorem dX8_deads_21 : decode cX8_deads 21 = .ok (.aload_n 0, 1) := by decide +kernel
theorem dX8_deads_22 : decode cX8_deads 22 = .ok (.getfield 20, 3) := by decide +kernel
theorem dX8_deads_25 : decode cX8_deads 25 = .ok (.getfield 80, 3) := by decide +kernel
theorem dX8_deads_28 : decode cX8_deads 28 = .ok (.iload_n 1, 1) := by decide +kernel
theorem dX8_deads_29 : decode cX8_deads 29 = .ok (.aaload, 1) := by decide +kernel
theorem dX8_deads_30 : decode cX8_deads 30 = .ok (.getfield 84, 3) := by decide +kernel
theorem dX8_deads_33 : decode cX8_deads 33 = .ok (.istore_n 3, 1) := by decide +kernel
theorem dX8_deads_34 : decode cX8_deads 34 = .ok (.iconst 0, 1) := by decide +kernel
theorem dX8_deads_35 : decode cX8_deads 35 = .ok (.istore 4, 2) := by decide +kernel
theorem dX8_deads_37 : decode cX8_deads 37 = .ok (.bipush 127, 2) := by decide +kernel
theorem dX8_deads_39 : decode cX8_deads 39 = .ok (.istore 5, 2) := by decide +kernel
theorem dX8_deads_41 : decode cX8_deads 41 = .ok (.iconst 0, 1) := by decide +kernel
theorem dX8_deads_42 : decode cX8_deads 42 = .ok (.istore 6, 2) := by decide +kernel
theorem dX8_deads_44 : decode cX8_deads 44 = .ok (.bipush (-9), 2) := by decide +kernel
theorem dX8_deads_46 : decode cX8_deads 46 = .ok (.istore 7, 2) := by decide +kernel
theorem dX8_deads_48 : decode cX8_deads 48 = .ok (.iconst 0, 1) := by decide +kernel
theorem dX8_deads_49 : decode cX8_deads 49 = .ok (.istore 8, 2) := by decide +kernel
theorem dX8_deads_51 : decode cX8_deads 51 = .ok (.iload 8, 2) := by decide +kernel
theorem dX8_deads_53 : decode cX8_deads 53 = .ok (.sipush 128, 3) := by decide +kernel
theorem dX8_deads_56 : decode cX8_deads 56 = .ok (.if_icmp .ge 58, 3) := by decide +kernel
theorem dX8_deads_59 : decode cX8_deads 59 = .ok (.aload_n 0, 1) := by decide +kernel
theorem dX8_deads_60 : decode cX8_deads 60 = .ok (.getfield 27, 3) := by decide +kernel
theorem dX8_deads_63 : decode cX8_deads 63 = .ok (.aload_n 0, 1) := by decide +kernel
theorem dX8_deads_64 : decode cX8_deads 64 = .ok (.getfield 20, 3) := by decide +kernel
theorem dX8_deads_67 : decode cX8_deads 67 = .ok (.iload_n 1, 1) := by decide +kernel
theorem dX8_deads_68 : decode cX8_deads 68 = .ok (.iload_n 3, 1) := by decide +kernel
theorem dX8_deads_69 : decode cX8_deads 69 = .ok (.iload 8, 2) := by decide +kernel
theorem dX8_deads_71 : decode cX8_deads 71 = .ok (.invokevirtual 191, 3) := by decide +kernel
theorem dX8_deads_74 : decode cX8_deads 74 = .ok (.ifCond .eq 34, 3) := by decide +kernel
theorem dX8_deads_77 : decode cX8_deads 77 = .ok (.iload 4, 2) := by decide +kernel
theorem dX8_deads_79 : decode cX8_deads 79 = .ok (.ifCond .ne 8, 3) := by decide +kernel
theorem dX8_deads_82 : decode cX8_deads 82 = .ok (.iload 8, 2) := by decide +kernel
theorem dX8_deads_84 : decode cX8_deads 84 = .ok (.goto 5, 3) := by decide +kernel
theorem dX8_deads_87 : decode cX8_deads 87 = .ok (.iload 7, 2) := by decide +kernel
theorem dX8_deads_89 : decode cX8_deads 89 = .ok (.istore 7, 2) := by decide +kernel
theorem dX8_deads_91 : decode cX8_deads 91 = .ok (.iinc 4 1, 3) := by decide +kernel
theorem dX8_deads_94 : decode cX8_deads 94 = .ok (.iload 5, 2) := by decide +kernel
theorem dX8_deads_96 : decode cX8_deads 96 = .ok (.iload 8, 2) := by decide +kernel
theorem dX8_deads_98 : decode cX8_deads 98 = .ok (.iand, 1) := by decide +kernel
theorem dX8_deads_99 : decode cX8_deads 99 = .ok (.istore 5, 2) := by decide +kernel
theorem dX8_deads_101 : decode cX8_deads 101 = .ok (.iload 6, 2) := by decide +kernel
theorem dX8_deads_103 : decode cX8_deads 103 = .ok (.iload 8, 2) := by decide +kernel
theorem dX8_deads_105 : decode cX8_deads 105 = .ok (.ior, 1) := by decide +kernel
theorem dX8_deads_106 : decode cX8_deads 106 = .ok (.istore 6, 2) := by decide +kernel
theorem dX8_deads_108 : decode cX8_deads 108 = .ok (.iinc 8 1, 3) := by decide +kernel
theorem dX8_deads_111 : decode cX8_deads 111 = .ok (.goto (-60), 3) := by decide +kernel
theorem dX8_deads_114 : decode cX8_deads 114 = .ok (.iload_n 2, 1) := by decide +kernel
theorem dX8_deads_115 : decode cX8_deads 115 = .ok (.ifCond .ne 6, 3) := by decide +kernel
theorem dX8_deads_118 : decode cX8_deads 118 = .ok (.iload 4, 2) := by decide +kernel
theorem dX8_deads_120 : decode cX8_deads 120 = .ok (.ireturn, 1) := by decide +kernel
theorem dX8_deads_121 : decode cX8_deads 121 = .ok (.iload 4, 2) := by decide +kernel
theorem dX8_deads_123 : decode cX8_deads 123 = .ok (.ifCond .ne 8, 3) := by decide +kernel
theorem dX8_deads_126 : decode cX8_deads 126 = .ok (.bipush (-9), 2) := by decide +kernel
theorem dX8_deads_128 : decode cX8_deads 128 = .ok (.goto 15, 3) := by decide +kernel
theorem dX8_deads_131 : decode cX8_deads 131 = .ok (.iload_n 2, 1) := by decide +kernel
theorem dX8_deads_132 : decode cX8_deads 132 = .ok (.iconst 1, 1) := by decide +kernel
theorem dX8_deads_133 : decode cX8_deads 133 = .ok (.isub, 1) := by decide +kernel
theorem dX8_deads_134 : decode cX8_deads 134 = .ok (.iload 5, 2) := by decide +kernel
theorem dX8_deads_136 : decode cX8_deads 136 = .ok (.iload 6, 2) := by decide +kernel
theorem dX8_deads_138 : decode cX8_deads 138 = .ok (.iload 7, 2) := by decide +kernel
theorem dX8_deads_140 : decode cX8_deads 140 = .ok (.invokestatic 149, 3) := by decide +kernel
theorem dX8_deads_143 : decode cX8_deads 143 = .ok (.ireturn, 1) := by decide +kernel
theorem dX8_kinds_0 : decode cX8_kinds 0 = .ok (.aload_n 0, 1) := by decide +kernel
theorem dX8_kinds_1 : decode cX8_kinds 1 = .ok (.iload_n 1, 1) := by decide +kernel
theorem dX8_kinds_2 : decode cX8_kinds 2 = .ok (.invokevirtual 76, 3) := by decide +kernel
theorem dX8_kinds_5 : decode cX8_kinds 5 = .ok (.ifCond .ne 5, 3) := by decide +kernel
theorem dX8_kinds_8 : decode cX8_kinds 8 = .ok (.iconst (-1), 1) := by decide +kernel
theorem dX8_kinds_9 : decode cX8_kinds 9 = .ok (.ireturn, 1) := by decide +kernel
theorem dX8_kinds_10 : decode cX8_kinds 10 = .ok (.aload_n 0, 1) := by decide +kernel
theorem dX8_kinds_11 : decode cX8_kinds 11 = .ok (.getfield 20, 3) := by decide +kernel
theorem dX8_kinds_14 : decode cX8_kinds 14 = .ok (.getfield 80, 3) := by decide +kernel
theorem dX8_kinds_17 : decode cX8_kinds 17 = .ok (.iload_n 1, 1) := by decide +kernel
theorem dX8_kinds_18 : decode cX8_kinds 18 = .ok (.aaload, 1) := by decide +kernel
theorem dX8_kinds_19 : decode cX8_kinds 19 = .ok (.getfield 89, 3) := by decide +kernel
theorem dX8_kinds_22 : decode cX8_kinds 22 = .ok (.istore_n 2, 1) := by decide +kernel
theorem dX8_kinds_23 : decode cX8_kinds 23 = .ok (.iconst 0, 1) := by decide +kernel
theorem dX8_kinds_24 : decode cX8_kinds 24 = .ok (.istore_n 3, 1) := by decide +kernel
theorem dX8_kinds_25 : decode cX8_kinds 25 = .ok (.iconst 0, 1) := by decide +kernel
theorem dX8_kinds_26 : decode cX8_kinds 26 = .ok (.istore 4, 2) := by decide +kernel
theorem dX8_kinds_28 : decode cX8_kinds 28 = .ok (.iload 4, 2) := by decide +kernel
theorem dX8_kinds_30 : decode cX8_kinds 30 = .ok (.iconst 3, 1) := by decide +kernel
theorem dX8_kinds_31 : decode cX8_kinds 31 = .ok (.if_icmp .ge 34, 3) := by decide +kernel
theorem dX8_kinds_34 : decode cX8_kinds 34 = .ok (.aload_n 0, 1) := by decide +kernel
theorem dX8_kinds_35 : decode cX8_kinds 35 = .ok (.getfield 27, 3) := by decide +kernel
theorem dX8_kinds_38 : decode cX8_kinds 38 = .ok (.aload_n 0, 1) := by decide +kernel
theorem dX8_kinds_39 : decode cX8_kinds 39 = .ok (.getfield 20, 3) := by decide +kernel
theorem dX8_kinds_42 : decode cX8_kinds 42 = .ok (.iload_n 1, 1) := by decide +kernel
theorem dX8_kinds_43 : decode cX8_kinds 43 = .ok (.iload 4, 2) := by decide +kernel
theorem dX8_kinds_45 : decode cX8_kinds 45 = .ok (.iload_n 2, 1) := by decide +kernel
theorem dX8_kinds_46 : decode cX8_kinds 46 = .ok (.invokevirtual 191, 3) := by decide +kernel
theorem dX8_kinds_49 : decode cX8_kinds 49 = .ok (.ifCond .eq 10, 3) := by decide +kernel
theorem dX8_kinds_52 : decode cX8_kinds 52 = .ok (.iload_n 3, 1) := by decide +kernel
theorem dX8_kinds_53 : decode cX8_kinds 53 = .ok (.iconst 1, 1) := by decide +kernel
theorem dX8_kinds_54 : decode cX8_kinds 54 = .ok (.iload 4, 2) := by decide +kernel
theorem dX8_kinds_56 : decode cX8_kinds 56 = .ok (.ishl, 1) := by decide +kernel
theorem dX8_kinds_57 : decode cX8_kinds 57 = .ok (.ior, 1) := by decide +kernel
theorem dX8_kinds_58 : decode cX8_kinds 58 = .ok (.istore_n 3, 1) := by decide +kernel
theorem dX8_kinds_59 : decode cX8_kinds 59 = .ok (.iinc 4 1, 3) := by decide +kernel
theorem dX8_kinds_62 : decode cX8_kinds 62 = .ok (.goto (-34), 3) := by decide +kernel
theorem dX8_kinds_65 : decode cX8_kinds 65 = .ok (.iload_n 3, 1) := by decide +kernel
theorem dX8_kinds_66 : decode cX8_kinds 66 = .ok (.ireturn, 1) := by decide +kernel
theorem dX8_odds_0 : decode cX8_odds 0 = .ok (.iload_n 1, 1) := by decide +kernel
theorem dX8_odds_1 : decode cX8_odds 1 = .ok (.iconst 2, 1) := by decide +kernel
theorem dX8_odds_2 : decode cX8_odds 2 = .ok (.invokestatic 50, 3) := by decide +kernel
theorem dX8_odds_5 : decode cX8_odds 5 = .ok (.ifCond .eq 13, 3) := by decide +kernel
theorem dX8_odds_8 : decode cX8_odds 8 = .ok (.aload_n 0, 1) := by decide +kernel
end
section
theorem dX8_odds_9 : decode cX8_odds 9 = .ok (.getfield 20, 3) := by decide +kernel
theorem dX8_odds_12 : decode cX8_odds 12 = .ok (.invokevirtual 122, 3) := by decide +kernel
theorem dX8_odds_15 : decode cX8_odds 15 = .ok (.ifCond .eq 7, 3) := by decide +kernel
theorem dX8_odds_18 : decode cX8_odds 18 = .ok (.ldc2_w 195, 3) := by decide +kernel
theorem dX8_odds_21 : decode cX8_odds 21 = .ok (.lreturn, 1) := by decide +kernel
theorem dX8_odds_22 : decode cX8_odds 22 = .ok (.aload_n 0, 1) := by decide +kernel
theorem dX8_odds_23 : decode cX8_odds 23 = .ok (.getfield 20, 3) := by decide +kernel
theorem dX8_odds_26 : decode cX8_odds 26 = .ok (.invokevirtual 197, 3) := by decide +kernel
theorem dX8_odds_29 : decode cX8_odds 29 = .ok (.i2l, 1) := by decide +kernel
theorem dX8_odds_30 : decode cX8_odds 30 = .ok (.lstore_n 2, 1) := by decide +kernel
theorem dX8_odds_31 : decode cX8_odds 31 = .ok (.aload_n 0, 1) := by decide +kernel
theorem dX8_odds_32 : decode cX8_odds 32 = .ok (.getfield 20, 3) := by decide +kernel
theorem dX8_odds_35 : decode cX8_odds 35 = .ok (.getfield 200, 3) := by decide +kernel
theorem dX8_odds_38 : decode cX8_odds 38 = .ok (.iconst 1, 1) := by decide +kernel
theorem dX8_odds_39 : decode cX8_odds 39 = .ok (.iadd, 1) := by decide +kernel
theorem dX8_odds_40 : decode cX8_odds 40 = .ok (.i2l, 1) := by decide +kernel
theorem dX8_odds_41 : decode cX8_odds 41 = .ok (.lstore 4, 2) := by decide +kernel
theorem dX8_odds_43 : decode cX8_odds 43 = .ok (.lload_n 2, 1) := by decide +kernel
theorem dX8_odds_44 : decode cX8_odds 44 = .ok (.lload 4, 2) := by decide +kernel
theorem dX8_odds_46 : decode cX8_odds 46 = .ok (.invokestatic 203, 3) := by decide +kernel
theorem dX8_odds_49 : decode cX8_odds 49 = .ok (.lstore 6, 2) := by decide +kernel
theorem dX8_odds_51 : decode cX8_odds 51 = .ok (.lload 6, 2) := by decide +kernel
theorem dX8_odds_53 : decode cX8_odds 53 = .ok (.lconst 1, 1) := by decide +kernel
theorem dX8_odds_54 : decode cX8_odds 54 = .ok (.lcmp, 1) := by decide +kernel
theorem dX8_odds_55 : decode cX8_odds 55 = .ok (.ifCond .ge 7, 3) := by decide +kernel
theorem dX8_odds_58 : decode cX8_odds 58 = .ok (.ldc2_w 195, 3) := by decide +kernel
theorem dX8_odds_61 : decode cX8_odds 61 = .ok (.lreturn, 1) := by decide +kernel
theorem dX8_odds_62 : decode cX8_odds 62 = .ok (.iload_n 1, 1) := by decide +kernel
theorem dX8_odds_63 : decode cX8_odds 63 = .ok (.ifCond .ne 10, 3) := by decide +kernel
theorem dX8_odds_66 : decode cX8_odds 66 = .ok (.lload_n 2, 1) := by decide +kernel
theorem dX8_odds_67 : decode cX8_odds 67 = .ok (.lload 6, 2) := by decide +kernel
theorem dX8_odds_69 : decode cX8_odds 69 = .ok (.ldiv, 1) := by decide +kernel
theorem dX8_odds_70 : decode cX8_odds 70 = .ok (.goto 8, 3) := by decide +kernel
theorem dX8_odds_73 : decode cX8_odds 73 = .ok (.lload 4, 2) := by decide +kernel
theorem dX8_odds_75 : decode cX8_odds 75 = .ok (.lload 6, 2) := by decide +kernel
theorem dX8_odds_77 : decode cX8_odds 77 = .ok (.ldiv, 1) := by decide +kernel
theorem dX8_odds_78 : decode cX8_odds 78 = .ok (.lreturn, 1) := by decide +kernel
theorem dX8_sheet_0 : decode cX8_sheet 0 = .ok (.aload_n 0, 1) := by decide +kernel
theorem dX8_sheet_1 : decode cX8_sheet 1 = .ok (.iconst 0, 1) := by decide +kernel
theorem dX8_sheet_2 : decode cX8_sheet 2 = .ok (.putfield 46, 3) := by decide +kernel
theorem dX8_sheet_5 : decode cX8_sheet 5 = .ok (.iload_n 1, 1) := by decide +kernel
theorem dX8_sheet_6 : decode cX8_sheet 6 = .ok (.iconst 4, 1) := by decide +kernel
theorem dX8_sheet_7 : decode cX8_sheet 7 = .ok (.invokestatic 50, 3) := by decide +kernel
theorem dX8_sheet_10 : decode cX8_sheet 10 = .ok (.ifCond .ne 5, 3) := by decide +kernel
theorem dX8_sheet_13 : decode cX8_sheet 13 = .ok (.iconst (-1), 1) := by decide +kernel
theorem dX8_sheet_14 : decode cX8_sheet 14 = .ok (.ireturn, 1) := by decide +kernel
theorem dX8_sheet_15 : decode cX8_sheet 15 = .ok (.iload_n 2, 1) := by decide +kernel
theorem dX8_sheet_16 : decode cX8_sheet 16 = .ok (.iconst 3, 1) := by decide +kernel
theorem dX8_sheet_17 : decode cX8_sheet 17 = .ok (.invokestatic 50, 3) := by decide +kernel
theorem dX8_sheet_20 : decode cX8_sheet 20 = .ok (.ifCond .eq 9, 3) := by decide +kernel
theorem dX8_sheet_23 : decode cX8_sheet 23 = .ok (.iload_n 3, 1) := by decide +kernel
theorem dX8_sheet_24 : decode cX8_sheet 24 = .ok (.bipush 60, 2) := by decide +kernel
theorem dX8_sheet_26 : decode cX8_sheet 26 = .ok (.if_icmp .le 6, 3) := by decide +kernel
theorem dX8_sheet_29 : decode cX8_sheet 29 = .ok (.bipush (-2), 2) := by decide +kernel
theorem dX8_sheet_31 : decode cX8_sheet 31 = .ok (.ireturn, 1) := by decide +kernel
theorem dX8_sheet_32 : decode cX8_sheet 32 = .ok (.iload_n 3, 1) := by decide +kernel
theorem dX8_sheet_33 : decode cX8_sheet 33 = .ok (.ifCond .ge 9, 3) := by decide +kernel
theorem dX8_sheet_36 : decode cX8_sheet 36 = .ok (.aload_n 0, 1) := by decide +kernel
theorem dX8_sheet_37 : decode cX8_sheet 37 = .ok (.iconst 4, 1) := by decide +kernel
theorem dX8_sheet_38 : decode cX8_sheet 38 = .ok (.invokevirtual 58, 3) := by decide +kernel
theorem dX8_sheet_41 : decode cX8_sheet 41 = .ok (.ireturn, 1) := by decide +kernel
theorem dX8_sheet_42 : decode cX8_sheet 42 = .ok (.aload_n 0, 1) := by decide +kernel
theorem dX8_sheet_43 : decode cX8_sheet 43 = .ok (.getfield 13, 3) := by decide +kernel
theorem dX8_sheet_46 : decode cX8_sheet 46 = .ok (.iload_n 1, 1) := by decide +kernel
theorem dX8_sheet_47 : decode cX8_sheet 47 = .ok (.aaload, 1) := by decide +kernel
theorem dX8_sheet_48 : decode cX8_sheet 48 = .ok (.iload_n 2, 1) := by decide +kernel
theorem dX8_sheet_49 : decode cX8_sheet 49 = .ok (.iload_n 3, 1) := by decide +kernel
theorem dX8_sheet_50 : decode cX8_sheet 50 = .ok (.invokevirtual 207, 3) := by decide +kernel
theorem dX8_sheet_53 : decode cX8_sheet 53 = .ok (.iconst 1, 1) := by decide +kernel
theorem dX8_sheet_54 : decode cX8_sheet 54 = .ok (.ireturn, 1) := by decide +kernel
theorem dX8_lose_0 : decode cX8_lose 0 = .ok (.iload_n 1, 1) := by decide +kernel
theorem dX8_lose_1 : decode cX8_lose 1 = .ok (.iconst 4, 1) := by decide +kernel
theorem dX8_lose_2 : decode cX8_lose 2 = .ok (.invokestatic 50, 3) := by decide +kernel
theorem dX8_lose_5 : decode cX8_lose 5 = .ok (.ifCond .ne 5, 3) := by decide +kernel
theorem dX8_lose_8 : decode cX8_lose 8 = .ok (.iconst (-1), 1) := by decide +kernel
theorem dX8_lose_9 : decode cX8_lose 9 = .ok (.ireturn, 1) := by decide +kernel
theorem dX8_lose_10 : decode cX8_lose 10 = .ok (.aload_n 0, 1) := by decide +kernel
theorem dX8_lose_11 : decode cX8_lose 11 = .ok (.getfield 13, 3) := by decide +kernel
theorem dX8_lose_14 : decode cX8_lose 14 = .ok (.iload_n 1, 1) := by decide +kernel
theorem dX8_lose_15 : decode cX8_lose 15 = .ok (.aaload, 1) := by decide +kernel
theorem dX8_lose_16 : decode cX8_lose 16 = .ok (.invokevirtual 211, 3) := by decide +kernel
theorem dX8_lose_19 : decode cX8_lose 19 = .ok (.ifCond .eq 7, 3) := by decide +kernel
theorem dX8_lose_22 : decode cX8_lose 22 = .ok (.iconst 1, 1) := by decide +kernel
theorem dX8_lose_23 : decode cX8_lose 23 = .ok (.goto 4, 3) := by decide +kernel
theorem dX8_lose_26 : decode cX8_lose 26 = .ok (.iconst 0, 1) := by decide +kernel
theorem dX8_lose_27 : decode cX8_lose 27 = .ok (.ireturn, 1) := by decide +kernel
theorem dX8_put_0 : decode cX8_put 0 = .ok (.aload_n 0, 1) := by decide +kernel
theorem dX8_put_1 : decode cX8_put 1 = .ok (.iconst 0, 1) := by decide +kernel
theorem dX8_put_2 : decode cX8_put 2 = .ok (.putfield 46, 3) := by decide +kernel
theorem dX8_put_5 : decode cX8_put 5 = .ok (.iload_n 1, 1) := by decide +kernel
theorem dX8_put_6 : decode cX8_put 6 = .ok (.iconst 4, 1) := by decide +kernel
theorem dX8_put_7 : decode cX8_put 7 = .ok (.invokestatic 50, 3) := by decide +kernel
theorem dX8_put_10 : decode cX8_put 10 = .ok (.ifCond .ne 5, 3) := by decide +kernel
theorem dX8_put_13 : decode cX8_put 13 = .ok (.iconst (-1), 1) := by decide +kernel
theorem dX8_put_14 : decode cX8_put 14 = .ok (.ireturn, 1) := by decide +kernel
theorem dX8_put_15 : decode cX8_put 15 = .ok (.aload_n 0, 1) := by decide +kernel
theorem dX8_put_16 : decode cX8_put 16 = .ok (.getfield 13, 3) := by decide +kernel
theorem dX8_put_19 : decode cX8_put 19 = .ok (.iload_n 1, 1) := by decide +kernel
theorem dX8_put_20 : decode cX8_put 20 = .ok (.aaload, 1) := by decide +kernel
theorem dX8_put_21 : decode cX8_put 21 = .ok (.astore 4, 2) := by decide +kernel
theorem dX8_put_23 : decode cX8_put 23 = .ok (.aload 4, 2) := by decide +kernel
theorem dX8_put_25 : decode cX8_put 25 = .ok (.invokevirtual 214, 3) := by decide +kernel
theorem dX8_put_28 : decode cX8_put 28 = .ok (.ifCond .eq 9, 3) := by decide +kernel
theorem dX8_put_31 : decode cX8_put 31 = .ok (.aload_n 0, 1) := by decide +kernel
theorem dX8_put_32 : decode cX8_put 32 = .ok (.iconst 1, 1) := by decide +kernel
theorem dX8_put_33 : decode cX8_put 33 = .ok (.invokevirtual 58, 3) := by decide +kernel
theorem dX8_put_36 : decode cX8_put 36 = .ok (.ireturn, 1) := by decide +kernel
theorem dX8_put_37 : decode cX8_put 37 = .ok (.aload 4, 2) := by decide +kernel
theorem dX8_put_39 : decode cX8_put 39 = .ok (.iload_n 2, 1) := by decide +kernel
theorem dX8_put_40 : decode cX8_put 40 = .ok (.iconst 1, 1) := by decide +kernel
theorem dX8_put_41 : decode cX8_put 41 = .ok (.invokevirtual 217, 3) := by decide +kernel
theorem dX8_put_44 : decode cX8_put 44 = .ok (.ifCond .ne 9, 3) := by decide +kernel
theorem dX8_put_47 : decode cX8_put 47 = .ok (.aload_n 0, 1) := by decide +kernel
theorem dX8_put_48 : decode cX8_put 48 = .ok (.iconst 3, 1) := by decide +kernel
theorem dX8_put_49 : decode cX8_put 49 = .ok (.invokevirtual 58, 3) := by decide +kernel
theorem dX8_put_52 : decode cX8_put 52 = .ok (.ireturn, 1) := by decide +kernel
theorem dX8_put_53 : decode cX8_put 53 = .ok (.aload 4, 2) := by decide +kernel
theorem dX8_put_55 : decode cX8_put 55 = .ok (.iload_n 2, 1) := by decide +kernel
theorem dX8_put_56 : decode cX8_put 56 = .ok (.iload_n 3, 1) := by decide +kernel
theorem dX8_put_57 : decode cX8_put 57 = .ok (.invokevirtual 220, 3) := by decide +kernel
theorem dX8_put_60 : decode cX8_put 60 = .ok (.iconst 1, 1) := by decide +kernel
theorem dX8_put_61 : decode cX8_put 61 = .ok (.ireturn, 1) := by decide +kernel
theorem dX8_cell_0 : decode cX8_cell 0 = .ok (.aload_n 0, 1) := by decide +kernel
theorem dX8_cell_1 : decode cX8_cell 1 = .ok (.iconst 0, 1) := by decide +kernel
theorem dX8_cell_2 : decode cX8_cell 2 = .ok (.putfield 46, 3) := by decide +kernel
theorem dX8_cell_5 : decode cX8_cell 5 = .ok (.iload_n 1, 1) := by decide +kernel
theorem dX8_cell_6 : decode cX8_cell 6 = .ok (.iconst 4, 1) := by decide +kernel
theorem dX8_cell_7 : decode cX8_cell 7 = .ok (.invokestatic 50, 3) := by decide +kernel
theorem dX8_cell_10 : decode cX8_cell 10 = .ok (.ifCond .eq 11, 3) := by decide +kernel
theorem dX8_cell_13 : decode cX8_cell 13 = .ok (.iload_n 3, 1) := by decide +kernel
theorem dX8_cell_14 : decode cX8_cell 14 = .ok (.iconst 3, 1) := by decide +kernel
theorem dX8_cell_15 : decode cX8_cell 15 = .ok (.invokestatic 50, 3) := by decide +kernel
theorem dX8_cell_18 : decode cX8_cell 18 = .ok (.ifCond .ne 7, 3) := by decide +kernel
theorem dX8_cell_21 : decode cX8_cell 21 = .ok (.ldc2_w 195, 3) := by decide +kernel
theorem dX8_cell_24 : decode cX8_cell 24 = .ok (.lreturn, 1) := by decide +kernel
theorem dX8_cell_25 : decode cX8_cell 25 = .ok (.aload_n 0, 1) := by decide +kernel
theorem dX8_cell_26 : decode cX8_cell 26 = .ok (.aload_n 0, 1) := by decide +kernel
theorem dX8_cell_27 : decode cX8_cell 27 = .ok (.getfield 13, 3) := by decide +kernel
theorem dX8_cell_30 : decode cX8_cell 30 = .ok (.iload_n 1, 1) := by decide +kernel
theorem dX8_cell_31 : decode cX8_cell 31 = .ok (.aaload, 1) := by decide +kernel
theorem dX8_cell_32 : decode cX8_cell 32 = .ok (.iload_n 3, 1) := by decide +kernel
theorem dX8_cell_33 : decode cX8_cell 33 = .ok (.iload_n 2, 1) := by decide +kernel
theorem dX8_cell_34 : decode cX8_cell 34 = .ok (.iconst 1, 1) := by decide +kernel
theorem dX8_cell_35 : decode cX8_cell 35 = .ok (.invokevirtual 54, 3) := by decide +kernel
theorem dX8_cell_38 : decode cX8_cell 38 = .ok (.putfield 46, 3) := by decide +kernel
theorem dX8_cell_41 : decode cX8_cell 41 = .ok (.aload_n 0, 1) := by decide +kernel
theorem dX8_cell_42 : decode cX8_cell 42 = .ok (.getfield 46, 3) := by decide +kernel
theorem dX8_cell_45 : decode cX8_cell 45 = .ok (.ifCond .ne 17, 3) := by decide +kernel
theorem dX8_cell_48 : decode cX8_cell 48 = .ok (.aload_n 0, 1) := by decide +kernel
theorem dX8_cell_49 : decode cX8_cell 49 = .ok (.getfield 13, 3) := by decide +kernel
theorem dX8_cell_52 : decode cX8_cell 52 = .ok (.iload_n 1, 1) := by decide +kernel
theorem dX8_cell_53 : decode cX8_cell 53 = .ok (.aaload, 1) := by decide +kernel
theorem dX8_cell_54 : decode cX8_cell 54 = .ok (.iload_n 2, 1) := by decide +kernel
theorem dX8_cell_55 : decode cX8_cell 55 = .ok (.invokevirtual 223, 3) := by decide +kernel
theorem dX8_cell_58 : decode cX8_cell 58 = .ok (.i2l, 1) := by decide +kernel
theorem dX8_cell_59 : decode cX8_cell 59 = .ok (.goto 6, 3) := by decide +kernel
theorem dX8_cell_62 : decode cX8_cell 62 = .ok (.ldc2_w 195, 3) := by decide +kernel
theorem dX8_cell_65 : decode cX8_cell 65 = .ok (.lreturn, 1) := by decide +kernel
theorem dX8_copy_0 : decode cX8_copy 0 = .ok (.aload_n 0, 1) := by decide +kernel
theorem dX8_copy_1 : decode cX8_copy 1 = .ok (.iconst 0, 1) := by decide +kernel
theorem dX8_copy_2 : decode cX8_copy 2 = .ok (.putfield 46, 3) := by decide +kernel
theorem dX8_copy_5 : decode cX8_copy 5 = .ok (.iload_n 1, 1) := by decide +kernel
theorem dX8_copy_6 : decode cX8_copy 6 = .ok (.iconst 4, 1) := by decide +kernel
theorem dX8_copy_7 : decode cX8_copy 7 = .ok (.invokestatic 50, 3) := by decide +kernel
theorem dX8_copy_10 : decode cX8_copy 10 = .ok (.ifCond .eq 11, 3) := by decide +kernel
theorem dX8_copy_13 : decode cX8_copy 13 = .ok (.iload_n 3, 1) := by decide +kernel
theorem dX8_copy_14 : decode cX8_copy 14 = .ok (.iconst 4, 1) := by decide +kernel
theorem dX8_copy_15 : decode cX8_copy 15 = .ok (.invokestatic 50, 3) := by decide +kernel
theorem dX8_copy_18 : decode cX8_copy 18 = .ok (.ifCond .ne 5, 3) := by decide +kernel
theorem dX8_copy_21 : decode cX8_copy 21 = .ok (.iconst (-1), 1) := by decide +kernel
theorem dX8_copy_22 : decode cX8_copy 22 = .ok (.ireturn, 1) := by decide +kernel
theorem dX8_copy_23 : decode cX8_copy 23 = .ok (.aload_n 0, 1) := by decide +kernel
theorem dX8_copy_24 : decode cX8_copy 24 = .ok (.getfield 13, 3) := by decide +kernel
theorem dX8_copy_27 : decode cX8_copy 27 = .ok (.iload_n 1, 1) := by decide +kernel
theorem dX8_copy_28 : decode cX8_copy 28 = .ok (.aaload, 1) := by decide +kernel
theorem dX8_copy_29 : decode cX8_copy 29 = .ok (.astore 6, 2) := by decide +kernel
theorem dX8_copy_31 : decode cX8_copy 31 = .ok (.aload_n 0, 1) := by decide +kernel
theorem dX8_copy_32 : decode cX8_copy 32 = .ok (.getfield 13, 3) := by decide +kernel
theorem dX8_copy_35 : decode cX8_copy 35 = .ok (.iload_n 3, 1) := by decide +kernel
theorem dX8_copy_36 : decode cX8_copy 36 = .ok (.aaload, 1) := by decide +kernel
theorem dX8_copy_37 : decode cX8_copy 37 = .ok (.astore 7, 2) := by decide +kernel
theorem dX8_copy_39 : decode cX8_copy 39 = .ok (.aload 6, 2) := by decide +kernel
theorem dX8_copy_41 : decode cX8_copy 41 = .ok (.invokevirtual 214, 3) := by decide +kernel
theorem dX8_copy_44 : decode cX8_copy 44 = .ok (.ifCond .ne 11, 3) := by decide +kernel
theorem dX8_copy_47 : decode cX8_copy 47 = .ok (.aload 7, 2) := by decide +kernel
theorem dX8_copy_49 : decode cX8_copy 49 = .ok (.invokevirtual 214, 3) := by decide +kernel
theorem dX8_copy_52 : decode cX8_copy 52 = .ok (.ifCond .eq 9, 3) := by decide +kernel
theorem dX8_copy_55 : decode cX8_copy 55 = .ok (.aload_n 0, 1) := by decide +kernel
theorem dX8_copy_56 : decode cX8_copy 56 = .ok (.iconst 1, 1) := by decide +kernel
theorem dX8_copy_57 : decode cX8_copy 57 = .ok (.invokevirtual 58, 3) := by decide +kernel
theorem dX8_copy_60 : decode cX8_copy 60 = .ok (.ireturn, 1) := by decide +kernel
theorem dX8_copy_61 : decode cX8_copy 61 = .ok (.aload 6, 2) := by decide +kernel
theorem dX8_copy_63 : decode cX8_copy 63 = .ok (.getfield 226, 3) := by decide +kernel
theorem dX8_copy_66 : decode cX8_copy 66 = .ok (.aload 7, 2) := by decide +kernel
theorem dX8_copy_68 : decode cX8_copy 68 = .ok (.getfield 226, 3) := by decide +kernel
theorem dX8_copy_71 : decode cX8_copy 71 = .ok (.if_icmp .eq 9, 3) := by decide +kernel
theorem dX8_copy_74 : decode cX8_copy 74 = .ok (.aload_n 0, 1) := by decide +kernel
theorem dX8_copy_75 : decode cX8_copy 75 = .ok (.iconst 2, 1) := by decide +kernel
theorem dX8_copy_76 : decode cX8_copy 76 = .ok (.invokevirtual 58, 3) := by decide +kernel
theorem dX8_copy_79 : decode cX8_copy 79 = .ok (.ireturn, 1) := by decide +kernel
theorem dX8_copy_80 : decode cX8_copy 80 = .ok (.aload 6, 2) := by decide +kernel
theorem dX8_copy_82 : decode cX8_copy 82 = .ok (.iload_n 2, 1) := by decide +kernel
theorem dX8_copy_83 : decode cX8_copy 83 = .ok (.iload 5, 2) := by decide +kernel
theorem dX8_copy_85 : decode cX8_copy 85 = .ok (.invokevirtual 217, 3) := by decide +kernel
theorem dX8_copy_88 : decode cX8_copy 88 = .ok (.ifCond .eq 15, 3) := by decide +kernel
theorem dX8_copy_91 : decode cX8_copy 91 = .ok (.aload 7, 2) := by decide +kernel
theorem dX8_copy_93 : decode cX8_copy 93 = .ok (.iload 4, 2) := by decide +kernel
theorem dX8_copy_95 : decode cX8_copy 95 = .ok (.iload 5, 2) := by decide +kernel
theorem dX8_copy_97 : decode cX8_copy 97 = .ok (.invokevirtual 217, 3) := by decide +kernel
theorem dX8_copy_100 : decode cX8_copy 100 = .ok (.ifCond .ne 9, 3) := by decide +kernel
theorem dX8_copy_103 : decode cX8_copy 103 = .ok (.aload_n 0, 1) := by decide +kernel
theorem dX8_copy_104 : decode cX8_copy 104 = .ok (.iconst 3, 1) := by decide +kernel
theorem dX8_copy_105 : decode cX8_copy 105 = .ok (.invokevirtual 58, 3) := by decide +kernel
theorem dX8_copy_108 : decode cX8_copy 108 = .ok (.ireturn, 1) := by decide +kernel
theorem dX8_copy_109 : decode cX8_copy 109 = .ok (.aload 7, 2) := by decide +kernel
theorem dX8_copy_111 : decode cX8_copy 111 = .ok (.aload 6, 2) := by decide +kernel
theorem dX8_copy_113 : decode cX8_copy 113 = .ok (.iload_n 2, 1) := by decide +kernel
theorem dX8_copy_114 : decode cX8_copy 114 = .ok (.iload 4, 2) := by decide +kernel
theorem dX8_copy_116 : decode cX8_copy 116 = .ok (.iload 5, 2) := by decide +kernel
theorem dX8_copy_118 : decode cX8_copy 118 = .ok (.invokevirtual 229, 3) := by decide +kernel
theorem dX8_copy_121 : decode cX8_copy 121 = .ok (.iload 5, 2) := by decide +kernel
theorem dX8_copy_123 : decode cX8_copy 123 = .ok (.ireturn, 1) := by decide +kernel
theorem dX8_tell_0 : decode cX8_tell 0 = .ok (.aload_n 0, 1) := by decide +kernel
theorem dX8_tell_1 : decode cX8_tell 1 = .ok (.iload_n 1, 1) := by decide +kernel
theorem dX8_tell_2 : decode cX8_tell 2 = .ok (.invokevirtual 76, 3) := by decide +kernel
theorem dX8_tell_5 : decode cX8_tell 5 = .ok (.ifCond .ne 5, 3) := by decide +kernel
theorem dX8_tell_8 : decode cX8_tell 8 = .ok (.iconst (-1), 1) := by decide +kernel
theorem dX8_tell_9 : decode cX8_tell 9 = .ok (.ireturn, 1) := by decide +kernel
theorem dX8_tell_10 : decode cX8_tell 10 = .ok (.aload_n 0, 1) := by decide +kernel
theorem dX8_tell_11 : decode cX8_tell 11 = .ok (.getfield 20, 3) := by decide +kernel
theorem dX8_tell_14 : decode cX8_tell 14 = .ok (.getfield 80, 3) := by decide +kernel
theorem dX8_tell_17 : decode cX8_tell 17 = .ok (.iload_n 1, 1) := by decide +kernel
theorem dX8_tell_18 : decode cX8_tell 18 = .ok (.aaload, 1) := by decide +kernel
theorem dX8_tell_19 : decode cX8_tell 19 = .ok (.astore_n 2, 1) := by decide +kernel
theorem dX8_tell_20 : decode cX8_tell 20 = .ok (.aload_n 2, 1) := by decide +kernel
theorem dX8_tell_21 : decode cX8_tell 21 = .ok (.getfield 84, 3) := by decide +kernel
theorem dX8_tell_24 : decode cX8_tell 24 = .ok (.lookupswitch 40 #[(1, 34), (2, 28)], 28) := by decide +kernel
theorem dX8_tell_52 : decode cX8_tell 52 = .ok (.aload_n 0, 1) := by decide +kernel
theorem dX8_tell_53 : decode cX8_tell 53 = .ok (.aload_n 2, 1) := by decide +kernel
theorem dX8_tell_54 : decode cX8_tell 54 = .ok (.invokevirtual 233, 3) := by decide +kernel
theorem dX8_tell_57 : decode cX8_tell 57 = .ok (.ireturn, 1) := by decide +kernel
theorem dX8_tell_58 : decode cX8_tell 58 = .ok (.aload_n 0, 1) := by decide +kernel
theorem dX8_tell_59 : decode cX8_tell 59 = .ok (.aload_n 2, 1) := by decide +kernel
theorem dX8_tell_60 : decode cX8_tell 60 = .ok (.invokevirtual 237, 3) := by decide +kernel
theorem dX8_tell_63 : decode cX8_tell 63 = .ok (.ireturn, 1) := by decide +kernel
theorem dX8_tell_64 : decode cX8_tell 64 = .ok (.aload_n 0, 1) := by decide +kernel
theorem dX8_tell_65 : decode cX8_tell 65 = .ok (.aload_n 2, 1) := by decide +kernel
theorem dX8_tell_66 : decode cX8_tell 66 = .ok (.invokevirtual 240, 3) := by decide +kernel
theorem dX8_tell_69 : decode cX8_tell 69 = .ok (.ireturn, 1) := by decide +kernel
theorem dX8_hum_0 : decode cX8_hum 0 = .ok (.aload_n 0, 1) := by decide +kernel
theorem dX8_hum_1 : decode cX8_hum 1 = .ok (.iload_n 1, 1) := by decide +kernel
theorem dX8_hum_2 : decode cX8_hum 2 = .ok (.invokevirtual 76, 3) := by decide +kernel
theorem dX8_hum_5 : decode cX8_hum 5 = .ok (.ifCond .ne 5, 3) := by decide +kernel
theorem dX8_hum_8 : decode cX8_hum 8 = .ok (.iconst (-1), 1) := by decide +kernel
theorem dX8_hum_9 : decode cX8_hum 9 = .ok (.ireturn, 1) := by decide +kernel
theorem dX8_hum_10 : decode cX8_hum 10 = .ok (.aload_n 0, 1) := by decide +kernel
theorem dX8_hum_11 : decode cX8_hum 11 = .ok (.getfield 20, 3) := by decide +kernel
theorem dX8_hum_14 : decode cX8_hum 14 = .ok (.getfield 80, 3) := by decide +kernel
theorem dX8_hum_17 : decode cX8_hum 17 = .ok (.iload_n 1, 1) := by decide +kernel
theorem dX8_hum_18 : decode cX8_hum 18 = .ok (.aaload, 1) := by decide +kernel
theorem dX8_hum_19 : decode cX8_hum 19 = .ok (.getfield 84, 3) := by decide +kernel
theorem dX8_hum_22 : decode cX8_hum 22 = .ok (.iconst 2, 1) := by decide +kernel
theorem dX8_hum_23 : decode cX8_hum 23 = .ok (.if_icmp .ne 11, 3) := by decide +kernel
theorem dX8_hum_26 : decode cX8_hum 26 = .ok (.aload_n 0, 1) := by decide +kernel
theorem dX8_hum_27 : decode cX8_hum 27 = .ok (.iconst 5, 1) := by decide +kernel
theorem dX8_hum_28 : decode cX8_hum 28 = .ok (.invokevirtual 243, 3) := by decide +kernel
theorem dX8_hum_31 : decode cX8_hum 31 = .ok (.bipush 60, 2) := by decide +kernel
theorem dX8_hum_33 : decode cX8_hum 33 = .ok (.ireturn, 1) := by decide +kernel
theorem dX8_hum_34 : decode cX8_hum 34 = .ok (.aload_n 0, 1) := by decide +kernel
theorem dX8_hum_35 : decode cX8_hum 35 = .ok (.iconst 4, 1) := by decide +kernel
theorem dX8_hum_36 : decode cX8_hum 36 = .ok (.invokevirtual 243, 3) := by decide +kernel
theorem dX8_hum_39 : decode cX8_hum 39 = .ok (.iload_n 1, 1) := by decide +kernel
theorem dX8_hum_40 : decode cX8_hum 40 = .ok (.ireturn, 1) := by decide +kernel
theorem dX8_as_0 : decode cX8_as 0 = .ok (.aload_n 0, 1) := by decide +kernel
theorem dX8_as_1 : decode cX8_as 1 = .ok (.iconst 0, 1) := by decide +kernel
theorem dX8_as_2 : decode cX8_as 2 = .ok (.putfield 46, 3) := by decide +kernel
theorem dX8_as_5 : decode cX8_as 5 = .ok (.aload_n 0, 1) := by decide +kernel
theorem dX8_as_6 : decode cX8_as 6 = .ok (.iload_n 1, 1) := by decide +kernel
theorem dX8_as_7 : decode cX8_as 7 = .ok (.invokevirtual 76, 3) := by decide +kernel
theorem dX8_as_10 : decode cX8_as 10 = .ok (.ifCond .ne 5, 3) := by decide +kernel
theorem dX8_as_13 : decode cX8_as 13 = .ok (.iconst (-1), 1) := by decide +kernel
theorem dX8_as_14 : decode cX8_as 14 = .ok (.ireturn, 1) := by decide +kernel
theorem dX8_as_15 : decode cX8_as 15 = .ok (.iload_n 2, 1) := by decide +kernel
theorem dX8_as_16 : decode cX8_as 16 = .ok (.iconst 3, 1) := by decide +kernel
theorem dX8_as_17 : decode cX8_as 17 = .ok (.invokestatic 50, 3) := by decide +kernel
theorem dX8_as_20 : decode cX8_as 20 = .ok (.ifCond .ne 6, 3) := by decide +kernel
theorem dX8_as_23 : decode cX8_as 23 = .ok (.bipush (-2), 2) := by decide +kernel
theorem dX8_as_25 : decode cX8_as 25 = .ok (.ireturn, 1) := by decide +kernel
theorem dX8_as_26 : decode cX8_as 26 = .ok (.aload_n 0, 1) := by decide +kernel
theorem dX8_as_27 : decode cX8_as 27 = .ok (.getfield 20, 3) := by decide +kernel
theorem dX8_as_30 : decode cX8_as 30 = .ok (.getfield 80, 3) := by decide +kernel
theorem dX8_as_33 : decode cX8_as 33 = .ok (.iload_n 1, 1) := by decide +kernel
theorem dX8_as_34 : decode cX8_as 34 = .ok (.aaload, 1) := by decide +kernel
theorem dX8_as_35 : decode cX8_as 35 = .ok (.getfield 84, 3) := by decide +kernel
theorem dX8_as_38 : decode cX8_as 38 = .ok (.iload_n 2, 1) := by decide +kernel
theorem dX8_as_39 : decode cX8_as 39 = .ok (.if_icmp .lt 7, 3) := by decide +kernel
theorem dX8_as_42 : decode cX8_as 42 = .ok (.iconst 1, 1) := by decide +kernel
theorem dX8_as_43 : decode cX8_as 43 = .ok (.goto 8, 3) := by decide +kernel
theorem dX8_as_46 : decode cX8_as 46 = .ok (.aload_n 0, 1) := by decide +kernel
theorem dX8_as_47 : decode cX8_as 47 = .ok (.iconst 2, 1) := by decide +kernel
theorem dX8_as_48 : decode cX8_as 48 = .ok (.invokevirtual 58, 3) := by decide +kernel
theorem dX8_as_51 : decode cX8_as 51 = .ok (.ireturn, 1) := by decide +kernel
theorem dX8_trace_0 : decode cX8_trace 0 = .ok (.aload_n 0, 1) := by decide +kernel
theorem dX8_trace_1 : decode cX8_trace 1 = .ok (.getfield 247, 3) := by decide +kernel
theorem dX8_trace_4 : decode cX8_trace 4 = .ok (.ireturn, 1) := by decide +kernel
theorem dX8_fault_0 : decode cX8_fault 0 = .ok (.aload_n 0, 1) := by decide +kernel
theorem dX8_fault_1 : decode cX8_fault 1 = .ok (.getfield 46, 3) := by decide +kernel
theorem dX8_fault_4 : decode cX8_fault 4 = .ok (.ireturn, 1) := by decide +kernel
theorem dX8_many_0 : decode cX8_many 0 = .ok (.iload_n 1, 1) := by decide +kernel
theorem dX8_many_1 : decode cX8_many 1 = .ok (.tableswitch 75 0 4 #[35, 43, 51, 59, 67], 35) := by decide +kernel
theorem dX8_many_36 : decode cX8_many 36 = .ok (.aload_n 0, 1) := by decide +kernel
theorem dX8_many_37 : decode cX8_many 37 = .ok (.getfield 20, 3) := by decide +kernel
theorem dX8_many_40 : decode cX8_many 40 = .ok (.getfield 75, 3) := by decide +kernel
theorem dX8_many_43 : decode cX8_many 43 = .ok (.ireturn, 1) := by decide +kernel
theorem dX8_many_44 : decode cX8_many 44 = .ok (.aload_n 0, 1) := by decide +kernel
theorem dX8_many_45 : decode cX8_many 45 = .ok (.getfield 20, 3) := by decide +kernel
theorem dX8_many_48 : decode cX8_many 48 = .ok (.getfield 250, 3) := by decide +kernel
theorem dX8_many_51 : decode cX8_many 51 = .ok (.ireturn, 1) := by decide +kernel
theorem dX8_many_52 : decode cX8_many 52 = .ok (.aload_n 0, 1) := by decide +kernel
theorem dX8_many_53 : decode cX8_many 53 = .ok (.getfield 20, 3) := by decide +kernel
theorem dX8_many_56 : decode cX8_many 56 = .ok (.getfield 99, 3) := by decide +kernel
theorem dX8_many_59 : decode cX8_many 59 = .ok (.ireturn, 1) := by decide +kernel
theorem dX8_many_60 : decode cX8_many 60 = .ok (.aload_n 0, 1) := by decide +kernel
theorem dX8_many_61 : decode cX8_many 61 = .ok (.getfield 20, 3) := by decide +kernel
theorem dX8_many_64 : decode cX8_many 64 = .ok (.invokevirtual 253, 3) := by decide +kernel
theorem dX8_many_67 : decode cX8_many 67 = .ok (.ireturn, 1) := by decide +kernel
theorem dX8_many_68 : decode cX8_many 68 = .ok (.aload_n 0, 1) := by decide +kernel
theorem dX8_many_69 : decode cX8_many 69 = .ok (.getfield 27, 3) := by decide +kernel
theorem dX8_many_72 : decode cX8_many 72 = .ok (.getfield 72, 3) := by decide +kernel
theorem dX8_many_75 : decode cX8_many 75 = .ok (.ireturn, 1) := by decide +kernel
theorem dX8_many_76 : decode cX8_many 76 = .ok (.bipush (-2), 2) := by decide +kernel
theorem dX8_many_78 : decode cX8_many 78 = .ok (.ireturn, 1) := by decide +kernel
theorem dX8_isWithin_0 : decode cX8_isWithin 0 = .ok (.iconst 0, 1) := by decide +kernel
theorem dX8_isWithin_1 : decode cX8_isWithin 1 = .ok (.iload_n 0, 1) := by decide +kernel
theorem dX8_isWithin_2 : decode cX8_isWithin 2 = .ok (.if_icmp .gt 12, 3) := by decide +kernel
theorem dX8_isWithin_5 : decode cX8_isWithin 5 = .ok (.iload_n 0, 1) := by decide +kernel
theorem dX8_isWithin_6 : decode cX8_isWithin 6 = .ok (.iload_n 1, 1) := by decide +kernel
theorem dX8_isWithin_7 : decode cX8_isWithin 7 = .ok (.if_icmp .ge 7, 3) := by decide +kernel
theorem dX8_isWithin_10 : decode cX8_isWithin 10 = .ok (.iconst 1, 1) := by decide +kernel
theorem dX8_isWithin_11 : decode cX8_isWithin 11 = .ok (.goto 4, 3) := by decide +kernel
theorem dX8_isWithin_14 : decode cX8_isWithin 14 = .ok (.iconst 0, 1) := by decide +kernel
theorem dX8_isWithin_15 : decode cX8_isWithin 15 = .ok (.ireturn, 1) := by decide +kernel
theorem dX8_isPlace_0 : decode cX8_isPlace 0 = .ok (.iload_n 1, 1) := by decide +kernel
theorem dX8_isPlace_1 : decode cX8_isPlace 1 = .ok (.aload_n 0, 1) := by decide +kernel
theorem dX8_isPlace_2 : decode cX8_isPlace 2 = .ok (.getfield 20, 3) := by decide +kernel
theorem dX8_isPlace_5 : decode cX8_isPlace 5 = .ok (.getfield 75, 3) := by decide +kernel
theorem dX8_isPlace_8 : decode cX8_isPlace 8 = .ok (.invokestatic 50, 3) := by decide +kernel
theorem dX8_isPlace_11 : decode cX8_isPlace 11 = .ok (.ireturn, 1) := by decide +kernel
theorem dX8_isOrderQuestion_0 : decode cX8_isOrderQuestion 0 = .ok (.iload_n 0, 1) := by decide +kernel
theorem dX8_isOrderQuestion_1 : decode cX8_isOrderQuestion 1 = .ok (.ifCond .eq 15, 3) := by decide +kernel
theorem dX8_isOrderQuestion_4 : decode cX8_isOrderQuestion 4 = .ok (.bipush 10, 2) := by decide +kernel
theorem dX8_isOrderQuestion_6 : decode cX8_isOrderQuestion 6 = .ok (.iload_n 0, 1) := by decide +kernel
theorem dX8_isOrderQuestion_7 : decode cX8_isOrderQuestion 7 = .ok (.if_icmp .gt 13, 3) := by decide +kernel
theorem dX8_isOrderQuestion_10 : decode cX8_isOrderQuestion 10 = .ok (.iload_n 0, 1) := by decide +kernel
theorem dX8_isOrderQuestion_11 : decode cX8_isOrderQuestion 11 = .ok (.bipush 16, 2) := by decide +kernel
theorem dX8_isOrderQuestion_13 : decode cX8_isOrderQuestion 13 = .ok (.if_icmp .ge 7, 3) := by decide +kernel
theorem dX8_isOrderQuestion_16 : decode cX8_isOrderQuestion 16 = .ok (.iconst 1, 1) := by decide +kernel
theorem dX8_isOrderQuestion_17 : decode cX8_isOrderQuestion 17 = .ok (.goto 4, 3) := by decide +kernel
theorem dX8_isOrderQuestion_20 : decode cX8_isOrderQuestion 20 = .ok (.iconst 0, 1) := by decide +kernel
theorem dX8_isOrderQuestion_21 : decode cX8_isOrderQuestion 21 = .ok (.ireturn, 1) := by decide +kernel
theorem dX8_faulted_0 : decode cX8_faulted 0 = .ok (.aload_n 0, 1) := by decide +kernel
theorem dX8_faulted_1 : decode cX8_faulted 1 = .ok (.iload_n 1, 1) := by decide +kernel
theorem dX8_faulted_2 : decode cX8_faulted 2 = .ok (.putfield 46, 3) := by decide +kernel
theorem dX8_faulted_5 : decode cX8_faulted 5 = .ok (.bipush (-10), 2) := by decide +kernel
theorem dX8_faulted_7 : decode cX8_faulted 7 = .ok (.iload_n 1, 1) := by decide +kernel
theorem dX8_faulted_8 : decode cX8_faulted 8 = .ok (.isub, 1) := by decide +kernel
theorem dX8_faulted_9 : decode cX8_faulted 9 = .ok (.ireturn, 1) := by decide +kernel
theorem dX8_pick_0 : decode cX8_pick 0 = .ok (.iload_n 0, 1) := by decide +kernel
theorem dX8_pick_1 : decode cX8_pick 1 = .ok (.ifCond .ne 7, 3) := by decide +kernel
theorem dX8_pick_4 : decode cX8_pick 4 = .ok (.iload_n 1, 1) := by decide +kernel
theorem dX8_pick_5 : decode cX8_pick 5 = .ok (.goto 13, 3) := by decide +kernel
theorem dX8_pick_8 : decode cX8_pick 8 = .ok (.iload_n 0, 1) := by decide +kernel
theorem dX8_pick_9 : decode cX8_pick 9 = .ok (.iconst 1, 1) := by decide +kernel
theorem dX8_pick_10 : decode cX8_pick 10 = .ok (.if_icmp .ne 7, 3) := by decide +kernel
theorem dX8_pick_13 : decode cX8_pick 13 = .ok (.iload_n 2, 1) := by decide +kernel
theorem dX8_pick_14 : decode cX8_pick 14 = .ok (.goto 4, 3) := by decide +kernel
theorem dX8_pick_17 : decode cX8_pick 17 = .ok (.iload_n 3, 1) := by decide +kernel
theorem dX8_pick_18 : decode cX8_pick 18 = .ok (.ireturn, 1) := by decide +kernel
theorem dX8_commonDivisor_0 : decode cX8_commonDivisor 0 = .ok (.lload_n 0, 1) := by decide +kernel
theorem dX8_commonDivisor_1 : decode cX8_commonDivisor 1 = .ok (.lstore 4, 2) := by decide +kernel
theorem dX8_commonDivisor_3 : decode cX8_commonDivisor 3 = .ok (.lload_n 2, 1) := by decide +kernel
theorem dX8_commonDivisor_4 : decode cX8_commonDivisor 4 = .ok (.lstore 6, 2) := by decide +kernel
theorem dX8_commonDivisor_6 : decode cX8_commonDivisor 6 = .ok (.iconst 0, 1) := by decide +kernel
theorem dX8_commonDivisor_7 : decode cX8_commonDivisor 7 = .ok (.istore 8, 2) := by decide +kernel
theorem dX8_commonDivisor_9 : decode cX8_commonDivisor 9 = .ok (.iload 8, 2) := by decide +kernel
theorem dX8_commonDivisor_11 : decode cX8_commonDivisor 11 = .ok (.bipush 64, 2) := by decide +kernel
theorem dX8_commonDivisor_13 : decode cX8_commonDivisor 13 = .ok (.if_icmp .ge 31, 3) := by decide +kernel
theorem dX8_commonDivisor_16 : decode cX8_commonDivisor 16 = .ok (.lload 6, 2) := by decide +kernel
theorem dX8_commonDivisor_18 : decode cX8_commonDivisor 18 = .ok (.lconst 0, 1) := by decide +kernel
theorem dX8_commonDivisor_19 : decode cX8_commonDivisor 19 = .ok (.lcmp, 1) := by decide +kernel
theorem dX8_commonDivisor_20 : decode cX8_commonDivisor 20 = .ok (.ifCond .eq 24, 3) := by decide +kernel
theorem dX8_commonDivisor_23 : decode cX8_commonDivisor 23 = .ok (.lload 4, 2) := by decide +kernel
theorem dX8_commonDivisor_25 : decode cX8_commonDivisor 25 = .ok (.lload 6, 2) := by decide +kernel
theorem dX8_commonDivisor_27 : decode cX8_commonDivisor 27 = .ok (.lrem, 1) := by decide +kernel
theorem dX8_commonDivisor_28 : decode cX8_commonDivisor 28 = .ok (.lstore 9, 2) := by decide +kernel
theorem dX8_commonDivisor_30 : decode cX8_commonDivisor 30 = .ok (.lload 6, 2) := by decide +kernel
theorem dX8_commonDivisor_32 : decode cX8_commonDivisor 32 = .ok (.lstore 4, 2) := by decide +kernel
theorem dX8_commonDivisor_34 : decode cX8_commonDivisor 34 = .ok (.lload 9, 2) := by decide +kernel
theorem dX8_commonDivisor_36 : decode cX8_commonDivisor 36 = .ok (.lstore 6, 2) := by decide +kernel
theorem dX8_commonDivisor_38 : decode cX8_commonDivisor 38 = .ok (.iinc 8 1, 3) := by decide +kernel
theorem dX8_commonDivisor_41 : decode cX8_commonDivisor 41 = .ok (.goto (-32), 3) := by decide +kernel
theorem dX8_commonDivisor_44 : decode cX8_commonDivisor 44 = .ok (.lload 4, 2) := by decide +kernel
theorem dX8_commonDivisor_46 : decode cX8_commonDivisor 46 = .ok (.lreturn, 1) := by decide +kernel
theorem dX8_leave_0 : decode cX8_leave 0 = .ok (.aload_n 0, 1) := by decide +kernel
theorem dX8_leave_1 : decode cX8_leave 1 = .ok (.bipush 31, 2) := by decide +kernel
theorem dX8_leave_3 : decode cX8_leave 3 = .ok (.aload_n 0, 1) := by decide +kernel
theorem dX8_leave_4 : decode cX8_leave 4 = .ok (.getfield 247, 3) := by decide +kernel
theorem dX8_leave_7 : decode cX8_leave 7 = .ok (.imul, 1) := by decide +kernel
theorem dX8_leave_8 : decode cX8_leave 8 = .ok (.iload_n 1, 1) := by decide +kernel
theorem dX8_leave_9 : decode cX8_leave 9 = .ok (.iadd, 1) := by decide +kernel
theorem dX8_leave_10 : decode cX8_leave 10 = .ok (.putfield 247, 3) := by decide +kernel
theorem dX8_leave_13 : decode cX8_leave 13 = .ok (.return_, 1) := by decide +kernel
theorem dX8_fairBody_0 : decode cX8_fairBody 0 = .ok (.aload_n 0, 1) := by decide +kernel
theorem dX8_fairBody_1 : decode cX8_fairBody 1 = .ok (.iconst 1, 1) := by decide +kernel
theorem dX8_fairBody_2 : decode cX8_fairBody 2 = .ok (.invokevirtual 243, 3) := by decide +kernel
theorem dX8_fairBody_5 : decode cX8_fairBody 5 = .ok (.aload_n 1, 1) := by decide +kernel
theorem dX8_fairBody_6 : decode cX8_fairBody 6 = .ok (.getfield 89, 3) := by decide +kernel
theorem dX8_fairBody_9 : decode cX8_fairBody 9 = .ok (.ireturn, 1) := by decide +kernel
theorem dX8_mirroredBody_0 : decode cX8_mirroredBody 0 = .ok (.aload_n 0, 1) := by decide +kernel
theorem dX8_mirroredBody_1 : decode cX8_mirroredBody 1 = .ok (.iconst 2, 1) := by decide +kernel
theorem dX8_mirroredBody_2 : decode cX8_mirroredBody 2 = .ok (.invokevirtual 243, 3) := by decide +kernel
theorem dX8_mirroredBody_5 : decode cX8_mirroredBody 5 = .ok (.aload_n 0, 1) := by decide +kernel
theorem dX8_mirroredBody_6 : decode cX8_mirroredBody 6 = .ok (.aload_n 1, 1) := by decide +kernel
theorem dX8_mirroredBody_7 : decode cX8_mirroredBody 7 = .ok (.invokevirtual 240, 3) := by decide +kernel
theorem dX8_mirroredBody_10 : decode cX8_mirroredBody 10 = .ok (.bipush 100, 2) := by decide +kernel
theorem dX8_mirroredBody_12 : decode cX8_mirroredBody 12 = .ok (.iadd, 1) := by decide +kernel
theorem dX8_mirroredBody_13 : decode cX8_mirroredBody 13 = .ok (.ireturn, 1) := by decide +kernel
theorem dX8_turnedBody_0 : decode cX8_turnedBody 0 = .ok (.aload_n 0, 1) := by decide +kernel
theorem dX8_turnedBody_1 : decode cX8_turnedBody 1 = .ok (.iconst 3, 1) := by decide +kernel
theorem dX8_turnedBody_2 : decode cX8_turnedBody 2 = .ok (.invokevirtual 243, 3) := by decide +kernel
theorem dX8_turnedBody_5 : decode cX8_turnedBody 5 = .ok (.aload_n 0, 1) := by decide +kernel
theorem dX8_turnedBody_6 : decode cX8_turnedBody 6 = .ok (.aload_n 1, 1) := by decide +kernel
theorem dX8_turnedBody_7 : decode cX8_turnedBody 7 = .ok (.invokevirtual 237, 3) := by decide +kernel
theorem dX8_turnedBody_10 : decode cX8_turnedBody 10 = .ok (.istore_n 2, 1) := by decide +kernel
theorem dX8_turnedBody_11 : decode cX8_turnedBody 11 = .ok (.iload_n 2, 1) := by decide +kernel
theorem dX8_turnedBody_12 : decode cX8_turnedBody 12 = .ok (.aload_n 0, 1) := by decide +kernel
theorem dX8_turnedBody_13 : decode cX8_turnedBody 13 = .ok (.aload_n 1, 1) := by decide +kernel
theorem dX8_turnedBody_14 : decode cX8_turnedBody 14 = .ok (.invokevirtual 240, 3) := by decide +kernel
theorem dX8_turnedBody_17 : decode cX8_turnedBody 17 = .ok (.iadd, 1) := by decide +kernel
theorem dX8_turnedBody_18 : decode cX8_turnedBody 18 = .ok (.ireturn, 1) := by decide +kernel
theorem dX9_init_0 : decode cX9_init 0 = .ok (.aload_n 0, 1) := by decide +kernel
theorem dX9_init_1 : decode cX9_init 1 = .ok (.invokespecial 1, 3) := by decide +kernel
theorem dX9_init_4 : decode cX9_init 4 = .ok (.aload_n 0, 1) := by decide +kernel
theorem dX9_init_5 : decode cX9_init 5 = .ok (.iconst 4, 1) := by decide +kernel
theorem dX9_init_6 : decode cX9_init 6 = .ok (.newarray .int, 2) := by decide +kernel
theorem dX9_init_8 : decode cX9_init 8 = .ok (.putfield 7, 3) := by decide +kernel
theorem dX9_init_11 : decode cX9_init 11 = .ok (.aload_n 0, 1) := by decide +kernel
theorem dX9_init_12 : decode cX9_init 12 = .ok (.iconst 4, 1) := by decide +kernel
theorem dX9_init_13 : decode cX9_init 13 = .ok (.newarray .int, 2) := by decide +kernel
theorem dX9_init_15 : decode cX9_init 15 = .ok (.putfield 13, 3) := by decide +kernel
theorem dX9_init_18 : decode cX9_init 18 = .ok (.aload_n 0, 1) := by decide +kernel
theorem dX9_init_19 : decode cX9_init 19 = .ok (.iconst 4, 1) := by decide +kernel
theorem dX9_init_20 : decode cX9_init 20 = .ok (.newarray .int, 2) := by decide +kernel
theorem dX9_init_22 : decode cX9_init 22 = .ok (.putfield 16, 3) := by decide +kernel
theorem dX9_init_25 : decode cX9_init 25 = .ok (.aload_n 0, 1) := by decide +kernel
theorem dX9_init_26 : decode cX9_init 26 = .ok (.bipush 28, 2) := by decide +kernel
theorem dX9_init_28 : decode cX9_init 28 = .ok (.newarray .int, 2) := by decide +kernel
theorem dX9_init_30 : decode cX9_init 30 = .ok (.putfield 19, 3) := by decide +kernel
theorem dX9_init_33 : decode cX9_init 33 = .ok (.aload_n 0, 1) := by decide +kernel
theorem dX9_init_34 : decode cX9_init 34 = .ok (.iconst 4, 1) := by decide +kernel
theorem dX9_init_35 : decode cX9_init 35 = .ok (.newarray .int, 2) := by decide +kernel
theorem dX9_init_37 : decode cX9_init 37 = .ok (.putfield 22, 3) := by decide +kernel
theorem dX9_init_40 : decode cX9_init 40 = .ok (.aload_n 0, 1) := by decide +kernel
theorem dX9_init_41 : decode cX9_init 41 = .ok (.iconst 4, 1) := by decide +kernel
theorem dX9_init_42 : decode cX9_init 42 = .ok (.newarray .int, 2) := by decide +kernel
theorem dX9_init_44 : decode cX9_init 44 = .ok (.putfield 25, 3) := by decide +kernel
theorem dX9_init_47 : decode cX9_init 47 = .ok (.aload_n 0, 1) := by decide +kernel
theorem dX9_init_48 : decode cX9_init 48 = .ok (.iconst 4, 1) := by decide +kernel
theorem dX9_init_49 : decode cX9_init 49 = .ok (.newarray .int, 2) := by decide +kernel
theorem dX9_init_51 : decode cX9_init 51 = .ok (.putfield 28, 3) := by decide +kernel
theorem dX9_init_54 : decode cX9_init 54 = .ok (.aload_n 0, 1) := by decide +kernel
theorem dX9_init_55 : decode cX9_init 55 = .ok (.iconst 4, 1) := by decide +kernel
theorem dX9_init_56 : decode cX9_init 56 = .ok (.newarray .int, 2) := by decide +kernel
theorem dX9_init_58 : decode cX9_init 58 = .ok (.putfield 31, 3) := by decide +kernel
theorem dX9_init_61 : decode cX9_init 61 = .ok (.aload_n 0, 1) := by decide +kernel
theorem dX9_init_62 : decode cX9_init 62 = .ok (.bipush 28, 2) := by decide +kernel
theorem dX9_init_64 : decode cX9_init 64 = .ok (.newarray .int, 2) := by decide +kernel
theorem dX9_init_66 : decode cX9_init 66 = .ok (.putfield 34, 3) := by decide +kernel
theorem dX9_init_69 : decode cX9_init 69 = .ok (.aload_n 0, 1) := by decide +kernel
theorem dX9_init_70 : decode cX9_init 70 = .ok (.bipush 36, 2) := by decide +kernel
theorem dX9_init_72 : decode cX9_init 72 = .ok (.newarray .int, 2) := by decide +kernel
theorem dX9_init_74 : decode cX9_init 74 = .ok (.putfield 37, 3) := by decide +kernel
theorem dX9_init_77 : decode cX9_init 77 = .ok (.aload_n 0, 1) := by decide +kernel
theorem dX9_init_78 : decode cX9_init 78 = .ok (.bipush 6, 2) := by decide +kernel
theorem dX9_init_80 : decode cX9_init 80 = .ok (.newarray .int, 2) := by decide +kernel
theorem dX9_init_82 : decode cX9_init 82 = .ok (.putfield 40, 3) := by decide +kernel
theorem dX9_init_85 : decode cX9_init 85 = .ok (.aload_n 0, 1) := by decide +kernel
theorem dX9_init_86 : decode cX9_init 86 = .ok (.bipush 6, 2) := by decide +kernel
theorem dX9_init_88 : decode cX9_init 88 = .ok (.newarray .int, 2) := by decide +kernel
theorem dX9_init_90 : decode cX9_init 90 = .ok (.putfield 43, 3) := by decide +kernel
theorem dX9_init_93 : decode cX9_init 93 = .ok (.aload_n 0, 1) := by decide +kernel
theorem dX9_init_94 : decode cX9_init 94 = .ok (.bipush 8, 2) := by decide +kernel
theorem dX9_init_96 : decode cX9_init 96 = .ok (.newarray .int, 2) := by decide +kernel
theorem dX9_init_98 : decode cX9_init 98 = .ok (.putfield 46, 3) := by decide +kernel
theorem dX9_init_101 : decode cX9_init 101 = .ok (.aload_n 0, 1) := by decide +kernel
theorem dX9_init_102 : decode cX9_init 102 = .ok (.bipush 8, 2) := by decide +kernel
theorem dX9_init_104 : decode cX9_init 104 = .ok (.newarray .int, 2) := by decide +kernel
theorem dX9_init_106 : decode cX9_init 106 = .ok (.putfield 49, 3) := by decide +kernel
theorem dX9_init_109 : decode cX9_init 109 = .ok (.aload_n 0, 1) := by decide +kernel
theorem dX9_init_110 : decode cX9_init 110 = .ok (.bipush 8, 2) := by decide +kernel
theorem dX9_init_112 : decode cX9_init 112 = .ok (.newarray .int, 2) := by decide +kernel
theorem dX9_init_114 : decode cX9_init 114 = .ok (.putfield 52, 3) := by decide +kernel
theorem dX9_init_117 : decode cX9_init 117 = .ok (.aload_n 0, 1) := by decide +kernel
theorem dX9_init_118 : decode cX9_init 118 = .ok (.iconst 4, 1) := by decide +kernel
theorem dX9_init_119 : decode cX9_init 119 = .ok (.newarray .int, 2) := by decide +kernel
theorem dX9_init_121 : decode cX9_init 121 = .ok (.putfield 55, 3) := by decide +kernel
theorem dX9_init_124 : decode cX9_init 124 = .ok (.aload_n 0, 1) := by decide +kernel
theorem dX9_init_125 : decode cX9_init 125 = .ok (.iconst 4, 1) := by decide +kernel
theorem dX9_init_126 : decode cX9_init 126 = .ok (.newarray .int, 2) := by decide +kernel
theorem dX9_init_128 : decode cX9_init 128 = .ok (.putfield 58, 3) := by decide +kernel
theorem dX9_init_131 : decode cX9_init 131 = .ok (.aload_n 0, 1) := by decide +kernel
theorem dX9_init_132 : decode cX9_init 132 = .ok (.sipush 240, 3) := by decide +kernel
theorem dX9_init_135 : decode cX9_init 135 = .ok (.newarray .int, 2) := by decide +kernel
theorem dX9_init_137 : decode cX9_init 137 = .ok (.putfield 61, 3) := by decide +kernel
theorem dX9_init_140 : decode cX9_init 140 = .ok (.aload_n 0, 1) := by decide +kernel
theorem dX9_init_141 : decode cX9_init 141 = .ok (.bipush 60, 2) := by decide +kernel
theorem dX9_init_143 : decode cX9_init 143 = .ok (.newarray .int, 2) := by decide +kernel
theorem dX9_init_145 : decode cX9_init 145 = .ok (.putfield 64, 3) := by decide +kernel
theorem dX9_init_148 : decode cX9_init 148 = .ok (.iconst 0, 1) := by decide +kernel
theorem dX9_init_149 : decode cX9_init 149 = .ok (.istore_n 1, 1) := by decide +kernel
theorem dX9_init_150 : decode cX9_init 150 = .ok (.iload_n 1, 1) := by decide +kernel
theorem dX9_init_151 : decode cX9_init 151 = .ok (.iconst 4, 1) := by decide +kernel
theorem dX9_init_152 : decode cX9_init 152 = .ok (.if_icmp .ge 16, 3) := by decide +kernel
theorem dX9_init_155 : decode cX9_init 155 = .ok (.aload_n 0, 1) := by decide +kernel
theorem dX9_init_156 : decode cX9_init 156 = .ok (.getfield 55, 3) := by decide +kernel
theorem dX9_init_159 : decode cX9_init 159 = .ok (.iload_n 1, 1) := by decide +kernel
theorem dX9_init_160 : decode cX9_init 160 = .ok (.iconst (-1), 1) := by decide +kernel
theorem dX9_init_161 : decode cX9_init 161 = .ok (.iastore, 1) := by decide +kernel
theorem dX9_init_162 : decode cX9_init 162 = .ok (.iinc 1 1, 3) := by decide +kernel
theorem dX9_init_165 : decode cX9_init 165 = .ok (.goto (-15), 3) := by decide +kernel
theorem dX9_init_168 : decode cX9_init 168 = .ok (.return_, 1) := by decide +kernel
theorem dX9_in_0 : decode cX9_in 0 = .ok (.lload_n 0, 1) := by decide +kernel
theorem dX9_in_1 : decode cX9_in 1 = .ok (.lload_n 2, 1) := by decide +kernel
theorem dX9_in_2 : decode cX9_in 2 = .ok (.lcmp, 1) := by decide +kernel
theorem dX9_in_3 : decode cX9_in 3 = .ok (.ifCond .lt 14, 3) := by decide +kernel
theorem dX9_in_6 : decode cX9_in 6 = .ok (.lload_n 0, 1) := by decide +kernel
theorem dX9_in_7 : decode cX9_in 7 = .ok (.lload 4, 2) := by decide +kernel
theorem dX9_in_9 : decode cX9_in 9 = .ok (.lcmp, 1) := by decide +kernel
theorem dX9_in_10 : decode cX9_in 10 = .ok (.ifCond .gt 7, 3) := by decide +kernel
theorem dX9_in_13 : decode cX9_in 13 = .ok (.iconst 1, 1) := by decide +kernel
theorem dX9_in_14 : decode cX9_in 14 = .ok (.goto 4, 3) := by decide +kernel
theorem dX9_in_17 : decode cX9_in 17 = .ok (.iconst 0, 1) := by decide +kernel
theorem dX9_in_18 : decode cX9_in 18 = .ok (.ireturn, 1) := by decide +kernel
theorem dX9_lost_0 : decode cX9_lost 0 = .ok (.ldc2_w 67, 3) := by decide +kernel
theorem dX9_lost_3 : decode cX9_lost 3 = .ok (.lreturn, 1) := by decide +kernel
theorem dX9_isIn_0 : decode cX9_isIn 0 = .ok (.iload_n 0, 1) := by decide +kernel
theorem dX9_isIn_1 : decode cX9_isIn 1 = .ok (.iload_n 1, 1) := by decide +kernel
theorem dX9_isIn_2 : decode cX9_isIn 2 = .ok (.ishr, 1) := by decide +kernel
theorem dX9_isIn_3 : decode cX9_isIn 3 = .ok (.iconst 1, 1) := by decide +kernel
theorem dX9_isIn_4 : decode cX9_isIn 4 = .ok (.iand, 1) := by decide +kernel
theorem dX9_isIn_5 : decode cX9_isIn 5 = .ok (.iconst 1, 1) := by decide +kernel
theorem dX9_isIn_6 : decode cX9_isIn 6 = .ok (.if_icmp .ne 7, 3) := by decide +kernel
theorem dX9_isIn_9 : decode cX9_isIn 9 = .ok (.iconst 1, 1) := by decide +kernel
theorem dX9_isIn_10 : decode cX9_isIn 10 = .ok (.goto 4, 3) := by decide +kernel
theorem dX9_isIn_13 : decode cX9_isIn 13 = .ok (.iconst 0, 1) := by decide +kernel
theorem dX9_isIn_14 : decode cX9_isIn 14 = .ok (.ireturn, 1) := by decide +kernel
theorem dX9_bits_0 : decode cX9_bits 0 = .ok (.iconst 0, 1) := by decide +kernel
theorem dX9_bits_1 : decode cX9_bits 1 = .ok (.istore_n 1, 1) := by decide +kernel
theorem dX9_bits_2 : decode cX9_bits 2 = .ok (.iload_n 0, 1) := by decide +kernel
theorem dX9_bits_3 : decode cX9_bits 3 = .ok (.istore_n 2, 1) := by decide +kernel
theorem dX9_bits_4 : decode cX9_bits 4 = .ok (.iload_n 2, 1) := by decide +kernel
theorem dX9_bits_5 : decode cX9_bits 5 = .ok (.ifCond .le 16, 3) := by decide +kernel
theorem dX9_bits_8 : decode cX9_bits 8 = .ok (.iload_n 1, 1) := by decide +kernel
theorem dX9_bits_9 : decode cX9_bits 9 = .ok (.iload_n 2, 1) := by decide +kernel
theorem dX9_bits_10 : decode cX9_bits 10 = .ok (.iconst 1, 1) := by decide +kernel
theorem dX9_bits_11 : decode cX9_bits 11 = .ok (.iand, 1) := by decide +kernel
theorem dX9_bits_12 : decode cX9_bits 12 = .ok (.iadd, 1) := by decide +kernel
theorem dX9_bits_13 : decode cX9_bits 13 = .ok (.istore_n 1, 1) := by decide +kernel
theorem dX9_bits_14 : decode cX9_bits 14 = .ok (.iload_n 2, 1) := by decide +kernel
theorem dX9_bits_15 : decode cX9_bits 15 = .ok (.iconst 1, 1) := by decide +kernel
theorem dX9_bits_16 : decode cX9_bits 16 = .ok (.ishr, 1) := by decide +kernel
theorem dX9_bits_17 : decode cX9_bits 17 = .ok (.istore_n 2, 1) := by decide +kernel
theorem dX9_bits_18 : decode cX9_bits 18 = .ok (.goto (-14), 3) := by decide +kernel
theorem dX9_bits_21 : decode cX9_bits 21 = .ok (.iload_n 1, 1) := by decide +kernel
theorem dX9_bits_22 : decode cX9_bits 22 = .ok (.ireturn, 1) := by decide +kernel
theorem dX9_share_0 : decode cX9_share 0 = .ok (.lload_n 0, 1) := by decide +kernel
theorem dX9_share_1 : decode cX9_share 1 = .ok (.lstore 5, 2) := by decide +kernel
theorem dX9_share_3 : decode cX9_share 3 = .ok (.lload_n 2, 1) := by decide +kernel
theorem dX9_share_4 : decode cX9_share 4 = .ok (.lstore 7, 2) := by decide +kernel
theorem dX9_share_6 : decode cX9_share 6 = .ok (.lload 7, 2) := by decide +kernel
theorem dX9_share_8 : decode cX9_share 8 = .ok (.lconst 0, 1) := by decide +kernel
theorem dX9_share_9 : decode cX9_share 9 = .ok (.lcmp, 1) := by decide +kernel
theorem dX9_share_10 : decode cX9_share 10 = .ok (.ifCond .eq 21, 3) := by decide +kernel
theorem dX9_share_13 : decode cX9_share 13 = .ok (.lload 5, 2) := by decide +kernel
theorem dX9_share_15 : decode cX9_share 15 = .ok (.lload 7, 2) := by decide +kernel
theorem dX9_share_17 : decode cX9_share 17 = .ok (.lrem, 1) := by decide +kernel
theorem dX9_share_18 : decode cX9_share 18 = .ok (.lstore 9, 2) := by decide +kernel
theorem dX9_share_20 : decode cX9_share 20 = .ok (.lload 7, 2) := by decide +kernel
theorem dX9_share_22 : decode cX9_share 22 = .ok (.lstore 5, 2) := by decide +kernel
theorem dX9_share_24 : decode cX9_share 24 = .ok (.lload 9, 2) := by decide +kernel
theorem dX9_share_26 : decode cX9_share 26 = .ok (.lstore 7, 2) := by decide +kernel
theorem dX9_share_28 : decode cX9_share 28 = .ok (.goto (-22), 3) := by decide +kernel
theorem dX9_share_31 : decode cX9_share 31 = .ok (.iload 4, 2) := by decide +kernel
theorem dX9_share_33 : decode cX9_share 33 = .ok (.ifCond .ne 7, 3) := by decide +kernel
theorem dX9_share_36 : decode cX9_share 36 = .ok (.lload_n 0, 1) := by decide +kernel
theorem dX9_share_37 : decode cX9_share 37 = .ok (.goto 4, 3) := by decide +kernel
theorem dX9_share_40 : decode cX9_share 40 = .ok (.lload_n 2, 1) := by decide +kernel
theorem dX9_share_41 : decode cX9_share 41 = .ok (.lload 5, 2) := by decide +kernel
theorem dX9_share_43 : decode cX9_share 43 = .ok (.ldiv, 1) := by decide +kernel
theorem dX9_share_44 : decode cX9_share 44 = .ok (.lreturn, 1) := by decide +kernel
theorem dX9_refused_0 : decode cX9_refused 0 = .ok (.aload_n 0, 1) := by decide +kernel
theorem dX9_refused_1 : decode cX9_refused 1 = .ok (.iconst 0, 1) := by decide +kernel
theorem dX9_refused_2 : decode cX9_refused 2 = .ok (.putfield 69, 3) := by decide +kernel
theorem dX9_refused_5 : decode cX9_refused 5 = .ok (.iload_n 1, 1) := by decide +kernel
theorem dX9_refused_6 : decode cX9_refused 6 = .ok (.ireturn, 1) := by decide +kernel
theorem dX9_failed_0 : decode cX9_failed 0 = .ok (.aload_n 0, 1) := by decide +kernel
theorem dX9_failed_1 : decode cX9_failed 1 = .ok (.iload_n 1, 1) := by decide +kernel
theorem dX9_failed_2 : decode cX9_failed 2 = .ok (.putfield 69, 3) := by decide +kernel
theorem dX9_failed_5 : decode cX9_failed 5 = .ok (.bipush (-10), 2) := by decide +kernel
theorem dX9_failed_7 : decode cX9_failed 7 = .ok (.iload_n 1, 1) := by decide +kernel
theorem dX9_failed_8 : decode cX9_failed 8 = .ok (.isub, 1) := by decide +kernel
theorem dX9_failed_9 : decode cX9_failed 9 = .ok (.ireturn, 1) := by decide +kernel
theorem dX9_failedLong_0 : decode cX9_failedLong 0 = .ok (.aload_n 0, 1) := by decide +kernel
theorem dX9_failedLong_1 : decode cX9_failedLong 1 = .ok (.iload_n 1, 1) := by decide +kernel
theorem dX9_failedLong_2 : decode cX9_failedLong 2 = .ok (.putfield 69, 3) := by decide +kernel
theorem dX9_failedLong_5 : decode cX9_failedLong 5 = .ok (.invokestatic 73, 3) := by decide +kernel
theorem dX9_failedLong_8 : decode cX9_failedLong 8 = .ok (.lreturn, 1) := by decide +kernel
theorem dX9_noPlace_0 : decode cX9_noPlace 0 = .ok (.iload_n 1, 1) := by decide +kernel
theorem dX9_noPlace_1 : decode cX9_noPlace 1 = .ok (.i2l, 1) := by decide +kernel
theorem dX9_noPlace_2 : decode cX9_noPlace 2 = .ok (.lconst 0, 1) := by decide +kernel
theorem dX9_noPlace_3 : decode cX9_noPlace 3 = .ok (.aload_n 0, 1) := by decide +kernel
theorem dX9_noPlace_4 : decode cX9_noPlace 4 = .ok (.getfield 77, 3) := by decide +kernel
theorem dX9_noPlace_7 : decode cX9_noPlace 7 = .ok (.i2l, 1) := by decide +kernel
theorem dX9_noPlace_8 : decode cX9_noPlace 8 = .ok (.lconst 1, 1) := by decide +kernel
theorem dX9_noPlace_9 : decode cX9_noPlace 9 = .ok (.lsub, 1) := by decide +kernel
theorem dX9_noPlace_10 : decode cX9_noPlace 10 = .ok (.invokestatic 80, 3) := by decide +kernel
theorem dX9_noPlace_13 : decode cX9_noPlace 13 = .ok (.ifCond .ne 7, 3) := by decide +kernel
theorem dX9_noPlace_16 : decode cX9_noPlace 16 = .ok (.iconst 1, 1) := by decide +kernel
theorem dX9_noPlace_17 : decode cX9_noPlace 17 = .ok (.goto 4, 3) := by decide +kernel
theorem dX9_noPlace_20 : decode cX9_noPlace 20 = .ok (.iconst 0, 1) := by decide +kernel
theorem dX9_noPlace_21 : decode cX9_noPlace 21 = .ok (.ireturn, 1) := by decide +kernel
theorem dX9_codeAt_0 : decode cX9_codeAt 0 = .ok (.aload_n 0, 1) := by decide +kernel
theorem dX9_codeAt_1 : decode cX9_codeAt 1 = .ok (.getfield 84, 3) := by decide +kernel
theorem dX9_codeAt_4 : decode cX9_codeAt 4 = .ok (.iload_n 2, 1) := by decide +kernel
theorem dX9_codeAt_5 : decode cX9_codeAt 5 = .ok (.if_icmp .ge 17, 3) := by decide +kernel
theorem dX9_codeAt_8 : decode cX9_codeAt 8 = .ok (.aload_n 0, 1) := by decide +kernel
theorem dX9_codeAt_9 : decode cX9_codeAt 9 = .ok (.getfield 61, 3) := by decide +kernel
theorem dX9_codeAt_12 : decode cX9_codeAt 12 = .ok (.iload_n 1, 1) := by decide +kernel
theorem dX9_codeAt_13 : decode cX9_codeAt 13 = .ok (.aload_n 0, 1) := by decide +kernel
theorem dX9_codeAt_14 : decode cX9_codeAt 14 = .ok (.getfield 84, 3) := by decide +kernel
theorem dX9_codeAt_17 : decode cX9_codeAt 17 = .ok (.iadd, 1) := by decide +kernel
theorem dX9_codeAt_18 : decode cX9_codeAt 18 = .ok (.iaload, 1) := by decide +kernel
theorem dX9_codeAt_19 : decode cX9_codeAt 19 = .ok (.goto 5, 3) := by decide +kernel
theorem dX9_codeAt_22 : decode cX9_codeAt 22 = .ok (.bipush (-9), 2) := by decide +kernel
theorem dX9_codeAt_24 : decode cX9_codeAt 24 = .ok (.ireturn, 1) := by decide +kernel
theorem dX9_figure_0 : decode cX9_figure 0 = .ok (.iload_n 3, 1) := by decide +kernel
theorem dX9_figure_1 : decode cX9_figure 1 = .ok (.ifCond .ge 8, 3) := by decide +kernel
theorem dX9_figure_4 : decode cX9_figure 4 = .ok (.bipush (-9), 2) := by decide +kernel
theorem dX9_figure_6 : decode cX9_figure 6 = .ok (.goto 12, 3) := by decide +kernel
theorem dX9_figure_9 : decode cX9_figure 9 = .ok (.aload_n 0, 1) := by decide +kernel
theorem dX9_figure_10 : decode cX9_figure 10 = .ok (.iload_n 1, 1) := by decide +kernel
theorem dX9_figure_11 : decode cX9_figure 11 = .ok (.iload_n 2, 1) := by decide +kernel
theorem dX9_figure_12 : decode cX9_figure 12 = .ok (.invokevirtual 87, 3) := by decide +kernel
theorem dX9_figure_15 : decode cX9_figure 15 = .ok (.bipush 48, 2) := by decide +kernel
theorem dX9_figure_17 : decode cX9_figure 17 = .ok (.isub, 1) := by decide +kernel
theorem dX9_figure_18 : decode cX9_figure 18 = .ok (.istore 6, 2) := by decide +kernel
theorem dX9_figure_20 : decode cX9_figure 20 = .ok (.iload 6, 2) := by decide +kernel
theorem dX9_figure_22 : decode cX9_figure 22 = .ok (.i2l, 1) := by decide +kernel
theorem dX9_figure_23 : decode cX9_figure 23 = .ok (.iload 4, 2) := by decide +kernel
theorem dX9_figure_25 : decode cX9_figure 25 = .ok (.i2l, 1) := by decide +kernel
theorem dX9_figure_26 : decode cX9_figure 26 = .ok (.iload 5, 2) := by decide +kernel
theorem dX9_figure_28 : decode cX9_figure 28 = .ok (.i2l, 1) := by decide +kernel
theorem dX9_figure_29 : decode cX9_figure 29 = .ok (.invokestatic 80, 3) := by decide +kernel
theorem dX9_figure_32 : decode cX9_figure 32 = .ok (.istore 7, 2) := by decide +kernel
theorem dX9_figure_34 : decode cX9_figure 34 = .ok (.aload_n 0, 1) := by decide +kernel
theorem dX9_figure_35 : decode cX9_figure 35 = .ok (.dup, 1) := by decide +kernel
theorem dX9_figure_36 : decode cX9_figure 36 = .ok (.getfield 84, 3) := by decide +kernel
theorem dX9_figure_39 : decode cX9_figure 39 = .ok (.iload 7, 2) := by decide +kernel
theorem dX9_figure_41 : decode cX9_figure 41 = .ok (.ifCond .eq 7, 3) := by decide +kernel
theorem dX9_figure_44 : decode cX9_figure 44 = .ok (.iconst 1, 1) := by decide +kernel
theorem dX9_figure_45 : decode cX9_figure 45 = .ok (.goto 4, 3) := by decide +kernel
theorem dX9_figure_48 : decode cX9_figure 48 = .ok (.iconst 0, 1) := by decide +kernel
theorem dX9_figure_49 : decode cX9_figure 49 = .ok (.iadd, 1) := by decide +kernel
theorem dX9_figure_50 : decode cX9_figure 50 = .ok (.putfield 84, 3) := by decide +kernel
theorem dX9_figure_53 : decode cX9_figure 53 = .ok (.iload 7, 2) := by decide +kernel
theorem dX9_figure_55 : decode cX9_figure 55 = .ok (.ifCond .eq 8, 3) := by decide +kernel
theorem dX9_figure_58 : decode cX9_figure 58 = .ok (.iload 6, 2) := by decide +kernel
theorem dX9_figure_60 : decode cX9_figure 60 = .ok (.goto 5, 3) := by decide +kernel
theorem dX9_figure_63 : decode cX9_figure 63 = .ok (.bipush (-9), 2) := by decide +kernel
theorem dX9_figure_65 : decode cX9_figure 65 = .ok (.ireturn, 1) := by decide +kernel
theorem dX9_barsRead_0 : decode cX9_barsRead 0 = .ok (.aload_n 0, 1) := by decide +kernel
theorem dX9_barsRead_1 : decode cX9_barsRead 1 = .ok (.iload_n 1, 1) := by decide +kernel
theorem dX9_barsRead_2 : decode cX9_barsRead 2 = .ok (.iload_n 2, 1) := by decide +kernel
theorem dX9_barsRead_3 : decode cX9_barsRead 3 = .ok (.iconst 0, 1) := by decide +kernel
theorem dX9_barsRead_4 : decode cX9_barsRead 4 = .ok (.iconst 0, 1) := by decide +kernel
theorem dX9_barsRead_5 : decode cX9_barsRead 5 = .ok (.iconst 1, 1) := by decide +kernel
theorem dX9_barsRead_6 : decode cX9_barsRead 6 = .ok (.invokevirtual 91, 3) := by decide +kernel
theorem dX9_barsRead_9 : decode cX9_barsRead 9 = .ok (.istore_n 3, 1) := by decide +kernel
theorem dX9_barsRead_10 : decode cX9_barsRead 10 = .ok (.aload_n 0, 1) := by decide +kernel
theorem dX9_barsRead_11 : decode cX9_barsRead 11 = .ok (.iload_n 1, 1) := by decide +kernel
theorem dX9_barsRead_12 : decode cX9_barsRead 12 = .ok (.iload_n 2, 1) := by decide +kernel
theorem dX9_barsRead_13 : decode cX9_barsRead 13 = .ok (.iload_n 3, 1) := by decide +kernel
theorem dX9_barsRead_14 : decode cX9_barsRead 14 = .ok (.iconst 0, 1) := by decide +kernel
theorem dX9_barsRead_15 : decode cX9_barsRead 15 = .ok (.iload_n 3, 1) := by decide +kernel
theorem dX9_barsRead_16 : decode cX9_barsRead 16 = .ok (.iconst 1, 1) := by decide +kernel
theorem dX9_barsRead_17 : decode cX9_barsRead 17 = .ok (.if_icmp .ne 7, 3) := by decide +kernel
theorem dX9_barsRead_20 : decode cX9_barsRead 20 = .ok (.iconst 2, 1) := by decide +kernel
theorem dX9_barsRead_21 : decode cX9_barsRead 21 = .ok (.goto 5, 3) := by decide +kernel
theorem dX9_barsRead_24 : decode cX9_barsRead 24 = .ok (.bipush 9, 2) := by decide +kernel
theorem dX9_barsRead_26 : decode cX9_barsRead 26 = .ok (.invokevirtual 91, 3) := by decide +kernel
end
section
theorem dX9_barsRead_29 : decode cX9_barsRead 29 = .ok (.istore 4, 2) := by decide +kernel
theorem dX9_barsRead_31 : decode cX9_barsRead 31 = .ok (.aload_n 0, 1) := by decide +kernel
theorem dX9_barsRead_32 : decode cX9_barsRead 32 = .ok (.iload_n 1, 1) := by decide +kernel
theorem dX9_barsRead_33 : decode cX9_barsRead 33 = .ok (.iload_n 2, 1) := by decide +kernel
theorem dX9_barsRead_34 : decode cX9_barsRead 34 = .ok (.iload 4, 2) := by decide +kernel
theorem dX9_barsRead_36 : decode cX9_barsRead 36 = .ok (.iconst 0, 1) := by decide +kernel
theorem dX9_barsRead_37 : decode cX9_barsRead 37 = .ok (.iload_n 3, 1) := by decide +kernel
theorem dX9_barsRead_38 : decode cX9_barsRead 38 = .ok (.iconst 1, 1) := by decide +kernel
theorem dX9_barsRead_39 : decode cX9_barsRead 39 = .ok (.if_icmp .ne 14, 3) := by decide +kernel
theorem dX9_barsRead_42 : decode cX9_barsRead 42 = .ok (.iload 4, 2) := by decide +kernel
theorem dX9_barsRead_44 : decode cX9_barsRead 44 = .ok (.iconst 2, 1) := by decide +kernel
theorem dX9_barsRead_45 : decode cX9_barsRead 45 = .ok (.if_icmp .ne 8, 3) := by decide +kernel
theorem dX9_barsRead_48 : decode cX9_barsRead 48 = .ok (.bipush 7, 2) := by decide +kernel
theorem dX9_barsRead_50 : decode cX9_barsRead 50 = .ok (.goto 5, 3) := by decide +kernel
theorem dX9_barsRead_53 : decode cX9_barsRead 53 = .ok (.bipush 9, 2) := by decide +kernel
theorem dX9_barsRead_55 : decode cX9_barsRead 55 = .ok (.invokevirtual 91, 3) := by decide +kernel
theorem dX9_barsRead_58 : decode cX9_barsRead 58 = .ok (.istore 5, 2) := by decide +kernel
theorem dX9_barsRead_60 : decode cX9_barsRead 60 = .ok (.iload 5, 2) := by decide +kernel
theorem dX9_barsRead_62 : decode cX9_barsRead 62 = .ok (.ifCond .ge 8, 3) := by decide +kernel
theorem dX9_barsRead_65 : decode cX9_barsRead 65 = .ok (.bipush (-9), 2) := by decide +kernel
theorem dX9_barsRead_67 : decode cX9_barsRead 67 = .ok (.goto 16, 3) := by decide +kernel
theorem dX9_barsRead_70 : decode cX9_barsRead 70 = .ok (.bipush 100, 2) := by decide +kernel
theorem dX9_barsRead_72 : decode cX9_barsRead 72 = .ok (.iload_n 3, 1) := by decide +kernel
theorem dX9_barsRead_73 : decode cX9_barsRead 73 = .ok (.imul, 1) := by decide +kernel
theorem dX9_barsRead_74 : decode cX9_barsRead 74 = .ok (.bipush 10, 2) := by decide +kernel
theorem dX9_barsRead_76 : decode cX9_barsRead 76 = .ok (.iload 4, 2) := by decide +kernel
theorem dX9_barsRead_78 : decode cX9_barsRead 78 = .ok (.imul, 1) := by decide +kernel
theorem dX9_barsRead_79 : decode cX9_barsRead 79 = .ok (.iadd, 1) := by decide +kernel
theorem dX9_barsRead_80 : decode cX9_barsRead 80 = .ok (.iload 5, 2) := by decide +kernel
theorem dX9_barsRead_82 : decode cX9_barsRead 82 = .ok (.iadd, 1) := by decide +kernel
theorem dX9_barsRead_83 : decode cX9_barsRead 83 = .ok (.ireturn, 1) := by decide +kernel
theorem dX9_readsPlace_0 : decode cX9_readsPlace 0 = .ok (.aload_n 0, 1) := by decide +kernel
theorem dX9_readsPlace_1 : decode cX9_readsPlace 1 = .ok (.getfield 95, 3) := by decide +kernel
theorem dX9_readsPlace_4 : decode cX9_readsPlace 4 = .ok (.iconst 4, 1) := by decide +kernel
theorem dX9_readsPlace_5 : decode cX9_readsPlace 5 = .ok (.if_icmp .eq 14, 3) := by decide +kernel
theorem dX9_readsPlace_8 : decode cX9_readsPlace 8 = .ok (.aload_n 0, 1) := by decide +kernel
theorem dX9_readsPlace_9 : decode cX9_readsPlace 9 = .ok (.iload_n 1, 1) := by decide +kernel
theorem dX9_readsPlace_10 : decode cX9_readsPlace 10 = .ok (.iload_n 2, 1) := by decide +kernel
theorem dX9_readsPlace_11 : decode cX9_readsPlace 11 = .ok (.invokevirtual 87, 3) := by decide +kernel
theorem dX9_readsPlace_14 : decode cX9_readsPlace 14 = .ok (.bipush 59, 2) := by decide +kernel
theorem dX9_readsPlace_16 : decode cX9_readsPlace 16 = .ok (.if_icmp .eq 5, 3) := by decide +kernel
theorem dX9_readsPlace_19 : decode cX9_readsPlace 19 = .ok (.iconst 0, 1) := by decide +kernel
theorem dX9_readsPlace_20 : decode cX9_readsPlace 20 = .ok (.ireturn, 1) := by decide +kernel
theorem dX9_readsPlace_21 : decode cX9_readsPlace 21 = .ok (.aload_n 0, 1) := by decide +kernel
theorem dX9_readsPlace_22 : decode cX9_readsPlace 22 = .ok (.dup, 1) := by decide +kernel
theorem dX9_readsPlace_23 : decode cX9_readsPlace 23 = .ok (.getfield 84, 3) := by decide +kernel
theorem dX9_readsPlace_26 : decode cX9_readsPlace 26 = .ok (.iconst 1, 1) := by decide +kernel
theorem dX9_readsPlace_27 : decode cX9_readsPlace 27 = .ok (.iadd, 1) := by decide +kernel
theorem dX9_readsPlace_28 : decode cX9_readsPlace 28 = .ok (.putfield 84, 3) := by decide +kernel
theorem dX9_readsPlace_31 : decode cX9_readsPlace 31 = .ok (.aload_n 0, 1) := by decide +kernel
theorem dX9_readsPlace_32 : decode cX9_readsPlace 32 = .ok (.iload_n 1, 1) := by decide +kernel
theorem dX9_readsPlace_33 : decode cX9_readsPlace 33 = .ok (.iload_n 2, 1) := by decide +kernel
theorem dX9_readsPlace_34 : decode cX9_readsPlace 34 = .ok (.invokevirtual 87, 3) := by decide +kernel
theorem dX9_readsPlace_37 : decode cX9_readsPlace 37 = .ok (.istore_n 3, 1) := by decide +kernel
theorem dX9_readsPlace_38 : decode cX9_readsPlace 38 = .ok (.iload_n 3, 1) := by decide +kernel
theorem dX9_readsPlace_39 : decode cX9_readsPlace 39 = .ok (.bipush 102, 2) := by decide +kernel
theorem dX9_readsPlace_41 : decode cX9_readsPlace 41 = .ok (.if_icmp .eq 17, 3) := by decide +kernel
theorem dX9_readsPlace_44 : decode cX9_readsPlace 44 = .ok (.iload_n 3, 1) := by decide +kernel
theorem dX9_readsPlace_45 : decode cX9_readsPlace 45 = .ok (.bipush 109, 2) := by decide +kernel
theorem dX9_readsPlace_47 : decode cX9_readsPlace 47 = .ok (.if_icmp .eq 11, 3) := by decide +kernel
theorem dX9_readsPlace_50 : decode cX9_readsPlace 50 = .ok (.iload_n 3, 1) := by decide +kernel
theorem dX9_readsPlace_51 : decode cX9_readsPlace 51 = .ok (.bipush 116, 2) := by decide +kernel
theorem dX9_readsPlace_53 : decode cX9_readsPlace 53 = .ok (.if_icmp .eq 5, 3) := by decide +kernel
theorem dX9_readsPlace_56 : decode cX9_readsPlace 56 = .ok (.iconst 0, 1) := by decide +kernel
theorem dX9_readsPlace_57 : decode cX9_readsPlace 57 = .ok (.ireturn, 1) := by decide +kernel
theorem dX9_readsPlace_58 : decode cX9_readsPlace 58 = .ok (.aload_n 0, 1) := by decide +kernel
theorem dX9_readsPlace_59 : decode cX9_readsPlace 59 = .ok (.dup, 1) := by decide +kernel
theorem dX9_readsPlace_60 : decode cX9_readsPlace 60 = .ok (.getfield 84, 3) := by decide +kernel
theorem dX9_readsPlace_63 : decode cX9_readsPlace 63 = .ok (.iconst 1, 1) := by decide +kernel
theorem dX9_readsPlace_64 : decode cX9_readsPlace 64 = .ok (.iadd, 1) := by decide +kernel
theorem dX9_readsPlace_65 : decode cX9_readsPlace 65 = .ok (.putfield 84, 3) := by decide +kernel
theorem dX9_readsPlace_68 : decode cX9_readsPlace 68 = .ok (.aload_n 0, 1) := by decide +kernel
theorem dX9_readsPlace_69 : decode cX9_readsPlace 69 = .ok (.iload_n 1, 1) := by decide +kernel
theorem dX9_readsPlace_70 : decode cX9_readsPlace 70 = .ok (.iload_n 2, 1) := by decide +kernel
theorem dX9_readsPlace_71 : decode cX9_readsPlace 71 = .ok (.invokevirtual 98, 3) := by decide +kernel
theorem dX9_readsPlace_74 : decode cX9_readsPlace 74 = .ok (.istore 4, 2) := by decide +kernel
theorem dX9_readsPlace_76 : decode cX9_readsPlace 76 = .ok (.iload 4, 2) := by decide +kernel
theorem dX9_readsPlace_78 : decode cX9_readsPlace 78 = .ok (.ifCond .ge 8, 3) := by decide +kernel
theorem dX9_readsPlace_81 : decode cX9_readsPlace 81 = .ok (.bipush (-9), 2) := by decide +kernel
theorem dX9_readsPlace_83 : decode cX9_readsPlace 83 = .ok (.goto 9, 3) := by decide +kernel
theorem dX9_readsPlace_86 : decode cX9_readsPlace 86 = .ok (.aload_n 0, 1) := by decide +kernel
theorem dX9_readsPlace_87 : decode cX9_readsPlace 87 = .ok (.iload_n 1, 1) := by decide +kernel
theorem dX9_readsPlace_88 : decode cX9_readsPlace 88 = .ok (.iload_n 2, 1) := by decide +kernel
theorem dX9_readsPlace_89 : decode cX9_readsPlace 89 = .ok (.invokevirtual 98, 3) := by decide +kernel
theorem dX9_readsPlace_92 : decode cX9_readsPlace 92 = .ok (.istore 5, 2) := by decide +kernel
theorem dX9_readsPlace_94 : decode cX9_readsPlace 94 = .ok (.iload 5, 2) := by decide +kernel
theorem dX9_readsPlace_96 : decode cX9_readsPlace 96 = .ok (.ifCond .ge 5, 3) := by decide +kernel
theorem dX9_readsPlace_99 : decode cX9_readsPlace 99 = .ok (.iconst 0, 1) := by decide +kernel
theorem dX9_readsPlace_100 : decode cX9_readsPlace 100 = .ok (.ireturn, 1) := by decide +kernel
theorem dX9_readsPlace_101 : decode cX9_readsPlace 101 = .ok (.aload_n 0, 1) := by decide +kernel
theorem dX9_readsPlace_102 : decode cX9_readsPlace 102 = .ok (.getfield 22, 3) := by decide +kernel
theorem dX9_readsPlace_105 : decode cX9_readsPlace 105 = .ok (.aload_n 0, 1) := by decide +kernel
theorem dX9_readsPlace_106 : decode cX9_readsPlace 106 = .ok (.getfield 95, 3) := by decide +kernel
theorem dX9_readsPlace_109 : decode cX9_readsPlace 109 = .ok (.iload_n 3, 1) := by decide +kernel
theorem dX9_readsPlace_110 : decode cX9_readsPlace 110 = .ok (.bipush 102, 2) := by decide +kernel
theorem dX9_readsPlace_112 : decode cX9_readsPlace 112 = .ok (.if_icmp .ne 7, 3) := by decide +kernel
theorem dX9_readsPlace_115 : decode cX9_readsPlace 115 = .ok (.iconst 0, 1) := by decide +kernel
theorem dX9_readsPlace_116 : decode cX9_readsPlace 116 = .ok (.goto 14, 3) := by decide +kernel
theorem dX9_readsPlace_119 : decode cX9_readsPlace 119 = .ok (.iload_n 3, 1) := by decide +kernel
theorem dX9_readsPlace_120 : decode cX9_readsPlace 120 = .ok (.bipush 109, 2) := by decide +kernel
theorem dX9_readsPlace_122 : decode cX9_readsPlace 122 = .ok (.if_icmp .ne 7, 3) := by decide +kernel
theorem dX9_readsPlace_125 : decode cX9_readsPlace 125 = .ok (.iconst 1, 1) := by decide +kernel
theorem dX9_readsPlace_126 : decode cX9_readsPlace 126 = .ok (.goto 4, 3) := by decide +kernel
theorem dX9_readsPlace_129 : decode cX9_readsPlace 129 = .ok (.iconst 2, 1) := by decide +kernel
theorem dX9_readsPlace_130 : decode cX9_readsPlace 130 = .ok (.iastore, 1) := by decide +kernel
theorem dX9_readsPlace_131 : decode cX9_readsPlace 131 = .ok (.aload_n 0, 1) := by decide +kernel
theorem dX9_readsPlace_132 : decode cX9_readsPlace 132 = .ok (.getfield 25, 3) := by decide +kernel
theorem dX9_readsPlace_135 : decode cX9_readsPlace 135 = .ok (.aload_n 0, 1) := by decide +kernel
theorem dX9_readsPlace_136 : decode cX9_readsPlace 136 = .ok (.getfield 95, 3) := by decide +kernel
theorem dX9_readsPlace_139 : decode cX9_readsPlace 139 = .ok (.iload 4, 2) := by decide +kernel
theorem dX9_readsPlace_141 : decode cX9_readsPlace 141 = .ok (.iastore, 1) := by decide +kernel
theorem dX9_readsPlace_142 : decode cX9_readsPlace 142 = .ok (.aload_n 0, 1) := by decide +kernel
theorem dX9_readsPlace_143 : decode cX9_readsPlace 143 = .ok (.getfield 28, 3) := by decide +kernel
theorem dX9_readsPlace_146 : decode cX9_readsPlace 146 = .ok (.aload_n 0, 1) := by decide +kernel
theorem dX9_readsPlace_147 : decode cX9_readsPlace 147 = .ok (.getfield 95, 3) := by decide +kernel
theorem dX9_readsPlace_150 : decode cX9_readsPlace 150 = .ok (.iload 5, 2) := by decide +kernel
theorem dX9_readsPlace_152 : decode cX9_readsPlace 152 = .ok (.iastore, 1) := by decide +kernel
theorem dX9_readsPlace_153 : decode cX9_readsPlace 153 = .ok (.aload_n 0, 1) := by decide +kernel
theorem dX9_readsPlace_154 : decode cX9_readsPlace 154 = .ok (.dup, 1) := by decide +kernel
theorem dX9_readsPlace_155 : decode cX9_readsPlace 155 = .ok (.getfield 95, 3) := by decide +kernel
theorem dX9_readsPlace_158 : decode cX9_readsPlace 158 = .ok (.iconst 1, 1) := by decide +kernel
theorem dX9_readsPlace_159 : decode cX9_readsPlace 159 = .ok (.iadd, 1) := by decide +kernel
theorem dX9_readsPlace_160 : decode cX9_readsPlace 160 = .ok (.putfield 95, 3) := by decide +kernel
theorem dX9_readsPlace_163 : decode cX9_readsPlace 163 = .ok (.iconst 1, 1) := by decide +kernel
theorem dX9_readsPlace_164 : decode cX9_readsPlace 164 = .ok (.ireturn, 1) := by decide +kernel
theorem dX9_lifeRead_0 : decode cX9_lifeRead 0 = .ok (.aload_n 0, 1) := by decide +kernel
theorem dX9_lifeRead_1 : decode cX9_lifeRead 1 = .ok (.iconst 0, 1) := by decide +kernel
theorem dX9_lifeRead_2 : decode cX9_lifeRead 2 = .ok (.putfield 84, 3) := by decide +kernel
theorem dX9_lifeRead_5 : decode cX9_lifeRead 5 = .ok (.aload_n 0, 1) := by decide +kernel
theorem dX9_lifeRead_6 : decode cX9_lifeRead 6 = .ok (.iconst 0, 1) := by decide +kernel
theorem dX9_lifeRead_7 : decode cX9_lifeRead 7 = .ok (.putfield 95, 3) := by decide +kernel
theorem dX9_lifeRead_10 : decode cX9_lifeRead 10 = .ok (.aload_n 0, 1) := by decide +kernel
theorem dX9_lifeRead_11 : decode cX9_lifeRead 11 = .ok (.iload_n 1, 1) := by decide +kernel
theorem dX9_lifeRead_12 : decode cX9_lifeRead 12 = .ok (.iload_n 2, 1) := by decide +kernel
theorem dX9_lifeRead_13 : decode cX9_lifeRead 13 = .ok (.invokevirtual 87, 3) := by decide +kernel
theorem dX9_lifeRead_16 : decode cX9_lifeRead 16 = .ok (.bipush 112, 2) := by decide +kernel
theorem dX9_lifeRead_18 : decode cX9_lifeRead 18 = .ok (.if_icmp .eq 6, 3) := by decide +kernel
theorem dX9_lifeRead_21 : decode cX9_lifeRead 21 = .ok (.bipush (-9), 2) := by decide +kernel
theorem dX9_lifeRead_23 : decode cX9_lifeRead 23 = .ok (.ireturn, 1) := by decide +kernel
theorem dX9_lifeRead_24 : decode cX9_lifeRead 24 = .ok (.aload_n 0, 1) := by decide +kernel
theorem dX9_lifeRead_25 : decode cX9_lifeRead 25 = .ok (.dup, 1) := by decide +kernel
theorem dX9_lifeRead_26 : decode cX9_lifeRead 26 = .ok (.getfield 84, 3) := by decide +kernel
theorem dX9_lifeRead_29 : decode cX9_lifeRead 29 = .ok (.iconst 1, 1) := by decide +kernel
theorem dX9_lifeRead_30 : decode cX9_lifeRead 30 = .ok (.iadd, 1) := by decide +kernel
theorem dX9_lifeRead_31 : decode cX9_lifeRead 31 = .ok (.putfield 84, 3) := by decide +kernel
theorem dX9_lifeRead_34 : decode cX9_lifeRead 34 = .ok (.aload_n 0, 1) := by decide +kernel
theorem dX9_lifeRead_35 : decode cX9_lifeRead 35 = .ok (.iload_n 1, 1) := by decide +kernel
theorem dX9_lifeRead_36 : decode cX9_lifeRead 36 = .ok (.iload_n 2, 1) := by decide +kernel
theorem dX9_lifeRead_37 : decode cX9_lifeRead 37 = .ok (.iconst 0, 1) := by decide +kernel
theorem dX9_lifeRead_38 : decode cX9_lifeRead 38 = .ok (.iconst 0, 1) := by decide +kernel
theorem dX9_lifeRead_39 : decode cX9_lifeRead 39 = .ok (.bipush 9, 2) := by decide +kernel
theorem dX9_lifeRead_41 : decode cX9_lifeRead 41 = .ok (.invokevirtual 91, 3) := by decide +kernel
theorem dX9_lifeRead_44 : decode cX9_lifeRead 44 = .ok (.istore_n 3, 1) := by decide +kernel
theorem dX9_lifeRead_45 : decode cX9_lifeRead 45 = .ok (.aload_n 0, 1) := by decide +kernel
theorem dX9_lifeRead_46 : decode cX9_lifeRead 46 = .ok (.iload_n 1, 1) := by decide +kernel
theorem dX9_lifeRead_47 : decode cX9_lifeRead 47 = .ok (.iload_n 2, 1) := by decide +kernel
theorem dX9_lifeRead_48 : decode cX9_lifeRead 48 = .ok (.iload_n 3, 1) := by decide +kernel
theorem dX9_lifeRead_49 : decode cX9_lifeRead 49 = .ok (.iload_n 3, 1) := by decide +kernel
theorem dX9_lifeRead_50 : decode cX9_lifeRead 50 = .ok (.ifCond .ne 7, 3) := by decide +kernel
theorem dX9_lifeRead_53 : decode cX9_lifeRead 53 = .ok (.iconst 1, 1) := by decide +kernel
theorem dX9_lifeRead_54 : decode cX9_lifeRead 54 = .ok (.goto 4, 3) := by decide +kernel
theorem dX9_lifeRead_57 : decode cX9_lifeRead 57 = .ok (.iconst 0, 1) := by decide +kernel
theorem dX9_lifeRead_58 : decode cX9_lifeRead 58 = .ok (.bipush 9, 2) := by decide +kernel
theorem dX9_lifeRead_60 : decode cX9_lifeRead 60 = .ok (.invokevirtual 91, 3) := by decide +kernel
theorem dX9_lifeRead_63 : decode cX9_lifeRead 63 = .ok (.istore 4, 2) := by decide +kernel
theorem dX9_lifeRead_65 : decode cX9_lifeRead 65 = .ok (.iload 4, 2) := by decide +kernel
theorem dX9_lifeRead_67 : decode cX9_lifeRead 67 = .ok (.ifCond .lt 7, 3) := by decide +kernel
theorem dX9_lifeRead_70 : decode cX9_lifeRead 70 = .ok (.iconst 1, 1) := by decide +kernel
theorem dX9_lifeRead_71 : decode cX9_lifeRead 71 = .ok (.goto 4, 3) := by decide +kernel
theorem dX9_lifeRead_74 : decode cX9_lifeRead 74 = .ok (.iconst 0, 1) := by decide +kernel
theorem dX9_lifeRead_75 : decode cX9_lifeRead 75 = .ok (.istore 5, 2) := by decide +kernel
theorem dX9_lifeRead_77 : decode cX9_lifeRead 77 = .ok (.iload 5, 2) := by decide +kernel
theorem dX9_lifeRead_79 : decode cX9_lifeRead 79 = .ok (.ifCond .eq 29, 3) := by decide +kernel
theorem dX9_lifeRead_82 : decode cX9_lifeRead 82 = .ok (.aload_n 0, 1) := by decide +kernel
theorem dX9_lifeRead_83 : decode cX9_lifeRead 83 = .ok (.getfield 95, 3) := by decide +kernel
theorem dX9_lifeRead_86 : decode cX9_lifeRead 86 = .ok (.ifCond .eq 11, 3) := by decide +kernel
theorem dX9_lifeRead_89 : decode cX9_lifeRead 89 = .ok (.aload_n 0, 1) := by decide +kernel
theorem dX9_lifeRead_90 : decode cX9_lifeRead 90 = .ok (.getfield 84, 3) := by decide +kernel
theorem dX9_lifeRead_93 : decode cX9_lifeRead 93 = .ok (.iload_n 2, 1) := by decide +kernel
theorem dX9_lifeRead_94 : decode cX9_lifeRead 94 = .ok (.if_icmp .ge 14, 3) := by decide +kernel
theorem dX9_lifeRead_97 : decode cX9_lifeRead 97 = .ok (.aload_n 0, 1) := by decide +kernel
theorem dX9_lifeRead_98 : decode cX9_lifeRead 98 = .ok (.iload_n 1, 1) := by decide +kernel
theorem dX9_lifeRead_99 : decode cX9_lifeRead 99 = .ok (.iload_n 2, 1) := by decide +kernel
theorem dX9_lifeRead_100 : decode cX9_lifeRead 100 = .ok (.invokevirtual 101, 3) := by decide +kernel
theorem dX9_lifeRead_103 : decode cX9_lifeRead 103 = .ok (.istore 5, 2) := by decide +kernel
theorem dX9_lifeRead_105 : decode cX9_lifeRead 105 = .ok (.goto (-28), 3) := by decide +kernel
theorem dX9_lifeRead_108 : decode cX9_lifeRead 108 = .ok (.iload 5, 2) := by decide +kernel
theorem dX9_lifeRead_110 : decode cX9_lifeRead 110 = .ok (.ifCond .eq 13, 3) := by decide +kernel
theorem dX9_lifeRead_113 : decode cX9_lifeRead 113 = .ok (.bipush 10, 2) := by decide +kernel
theorem dX9_lifeRead_115 : decode cX9_lifeRead 115 = .ok (.iload_n 3, 1) := by decide +kernel
theorem dX9_lifeRead_116 : decode cX9_lifeRead 116 = .ok (.imul, 1) := by decide +kernel
theorem dX9_lifeRead_117 : decode cX9_lifeRead 117 = .ok (.iload 4, 2) := by decide +kernel
theorem dX9_lifeRead_119 : decode cX9_lifeRead 119 = .ok (.iadd, 1) := by decide +kernel
theorem dX9_lifeRead_120 : decode cX9_lifeRead 120 = .ok (.goto 5, 3) := by decide +kernel
theorem dX9_lifeRead_123 : decode cX9_lifeRead 123 = .ok (.bipush (-9), 2) := by decide +kernel
theorem dX9_lifeRead_125 : decode cX9_lifeRead 125 = .ok (.ireturn, 1) := by decide +kernel
theorem dX9_cellsBarred_0 : decode cX9_cellsBarred 0 = .ok (.aload_n 0, 1) := by decide +kernel
theorem dX9_cellsBarred_1 : decode cX9_cellsBarred 1 = .ok (.getfield 55, 3) := by decide +kernel
theorem dX9_cellsBarred_4 : decode cX9_cellsBarred 4 = .ok (.iload_n 1, 1) := by decide +kernel
theorem dX9_cellsBarred_5 : decode cX9_cellsBarred 5 = .ok (.iaload, 1) := by decide +kernel
theorem dX9_cellsBarred_6 : decode cX9_cellsBarred 6 = .ok (.ifCond .lt 19, 3) := by decide +kernel
theorem dX9_cellsBarred_9 : decode cX9_cellsBarred 9 = .ok (.aload_n 0, 1) := by decide +kernel
theorem dX9_cellsBarred_10 : decode cX9_cellsBarred 10 = .ok (.getfield 58, 3) := by decide +kernel
theorem dX9_cellsBarred_13 : decode cX9_cellsBarred 13 = .ok (.iload_n 1, 1) := by decide +kernel
theorem dX9_cellsBarred_14 : decode cX9_cellsBarred 14 = .ok (.iaload, 1) := by decide +kernel
theorem dX9_cellsBarred_15 : decode cX9_cellsBarred 15 = .ok (.iload_n 2, 1) := by decide +kernel
theorem dX9_cellsBarred_16 : decode cX9_cellsBarred 16 = .ok (.if_icmp .eq 9, 3) := by decide +kernel
theorem dX9_cellsBarred_19 : decode cX9_cellsBarred 19 = .ok (.aload_n 0, 1) := by decide +kernel
theorem dX9_cellsBarred_20 : decode cX9_cellsBarred 20 = .ok (.iconst 2, 1) := by decide +kernel
theorem dX9_cellsBarred_21 : decode cX9_cellsBarred 21 = .ok (.invokevirtual 105, 3) := by decide +kernel
theorem dX9_cellsBarred_24 : decode cX9_cellsBarred 24 = .ok (.ireturn, 1) := by decide +kernel
theorem dX9_cellsBarred_25 : decode cX9_cellsBarred 25 = .ok (.aload_n 0, 1) := by decide +kernel
theorem dX9_cellsBarred_26 : decode cX9_cellsBarred 26 = .ok (.getfield 55, 3) := by decide +kernel
theorem dX9_cellsBarred_29 : decode cX9_cellsBarred 29 = .ok (.iload_n 1, 1) := by decide +kernel
theorem dX9_cellsBarred_30 : decode cX9_cellsBarred 30 = .ok (.iaload, 1) := by decide +kernel
theorem dX9_cellsBarred_31 : decode cX9_cellsBarred 31 = .ok (.ifCond .ge 9, 3) := by decide +kernel
theorem dX9_cellsBarred_34 : decode cX9_cellsBarred 34 = .ok (.aload_n 0, 1) := by decide +kernel
theorem dX9_cellsBarred_35 : decode cX9_cellsBarred 35 = .ok (.iconst 1, 1) := by decide +kernel
theorem dX9_cellsBarred_36 : decode cX9_cellsBarred 36 = .ok (.invokevirtual 105, 3) := by decide +kernel
theorem dX9_cellsBarred_39 : decode cX9_cellsBarred 39 = .ok (.ireturn, 1) := by decide +kernel
theorem dX9_cellsBarred_40 : decode cX9_cellsBarred 40 = .ok (.lload 4, 2) := by decide +kernel
theorem dX9_cellsBarred_42 : decode cX9_cellsBarred 42 = .ok (.lconst 0, 1) := by decide +kernel
theorem dX9_cellsBarred_43 : decode cX9_cellsBarred 43 = .ok (.lcmp, 1) := by decide +kernel
theorem dX9_cellsBarred_44 : decode cX9_cellsBarred 44 = .ok (.ifCond .ge 9, 3) := by decide +kernel
theorem dX9_cellsBarred_47 : decode cX9_cellsBarred 47 = .ok (.aload_n 0, 1) := by decide +kernel
theorem dX9_cellsBarred_48 : decode cX9_cellsBarred 48 = .ok (.iconst 4, 1) := by decide +kernel
theorem dX9_cellsBarred_49 : decode cX9_cellsBarred 49 = .ok (.invokevirtual 105, 3) := by decide +kernel
theorem dX9_cellsBarred_52 : decode cX9_cellsBarred 52 = .ok (.ireturn, 1) := by decide +kernel
theorem dX9_cellsBarred_53 : decode cX9_cellsBarred 53 = .ok (.iload_n 3, 1) := by decide +kernel
theorem dX9_cellsBarred_54 : decode cX9_cellsBarred 54 = .ok (.lload 4, 2) := by decide +kernel
theorem dX9_cellsBarred_56 : decode cX9_cellsBarred 56 = .ok (.aload_n 0, 1) := by decide +kernel
theorem dX9_cellsBarred_57 : decode cX9_cellsBarred 57 = .ok (.getfield 55, 3) := by decide +kernel
theorem dX9_cellsBarred_60 : decode cX9_cellsBarred 60 = .ok (.iload_n 1, 1) := by decide +kernel
theorem dX9_cellsBarred_61 : decode cX9_cellsBarred 61 = .ok (.iaload, 1) := by decide +kernel
theorem dX9_cellsBarred_62 : decode cX9_cellsBarred 62 = .ok (.invokestatic 109, 3) := by decide +kernel
theorem dX9_cellsBarred_65 : decode cX9_cellsBarred 65 = .ok (.ifCond .eq 11, 3) := by decide +kernel
theorem dX9_cellsBarred_68 : decode cX9_cellsBarred 68 = .ok (.aload_n 0, 1) := by decide +kernel
theorem dX9_cellsBarred_69 : decode cX9_cellsBarred 69 = .ok (.iconst 3, 1) := by decide +kernel
theorem dX9_cellsBarred_70 : decode cX9_cellsBarred 70 = .ok (.invokevirtual 105, 3) := by decide +kernel
theorem dX9_cellsBarred_73 : decode cX9_cellsBarred 73 = .ok (.goto 4, 3) := by decide +kernel
theorem dX9_cellsBarred_76 : decode cX9_cellsBarred 76 = .ok (.iconst 0, 1) := by decide +kernel
theorem dX9_cellsBarred_77 : decode cX9_cellsBarred 77 = .ok (.ireturn, 1) := by decide +kernel
theorem dX9_panel_0 : decode cX9_panel 0 = .ok (.iload_n 1, 1) := by decide +kernel
theorem dX9_panel_1 : decode cX9_panel 1 = .ok (.invokestatic 113, 3) := by decide +kernel
theorem dX9_panel_4 : decode cX9_panel 4 = .ok (.ifCond .eq 9, 3) := by decide +kernel
theorem dX9_panel_7 : decode cX9_panel 7 = .ok (.aload_n 0, 1) := by decide +kernel
theorem dX9_panel_8 : decode cX9_panel 8 = .ok (.iconst (-1), 1) := by decide +kernel
theorem dX9_panel_9 : decode cX9_panel 9 = .ok (.invokevirtual 117, 3) := by decide +kernel
theorem dX9_panel_12 : decode cX9_panel 12 = .ok (.ireturn, 1) := by decide +kernel
theorem dX9_panel_13 : decode cX9_panel 13 = .ok (.iload_n 2, 1) := by decide +kernel
theorem dX9_panel_14 : decode cX9_panel 14 = .ok (.i2l, 1) := by decide +kernel
theorem dX9_panel_15 : decode cX9_panel 15 = .ok (.lconst 0, 1) := by decide +kernel
theorem dX9_panel_16 : decode cX9_panel 16 = .ok (.ldc2_w 120, 3) := by decide +kernel
theorem dX9_panel_19 : decode cX9_panel 19 = .ok (.invokestatic 80, 3) := by decide +kernel
theorem dX9_panel_22 : decode cX9_panel 22 = .ok (.ifCond .ne 10, 3) := by decide +kernel
theorem dX9_panel_25 : decode cX9_panel 25 = .ok (.aload_n 0, 1) := by decide +kernel
theorem dX9_panel_26 : decode cX9_panel 26 = .ok (.bipush (-2), 2) := by decide +kernel
theorem dX9_panel_28 : decode cX9_panel 28 = .ok (.invokevirtual 117, 3) := by decide +kernel
theorem dX9_panel_31 : decode cX9_panel 31 = .ok (.ireturn, 1) := by decide +kernel
theorem dX9_panel_32 : decode cX9_panel 32 = .ok (.aload_n 0, 1) := by decide +kernel
theorem dX9_panel_33 : decode cX9_panel 33 = .ok (.iload_n 1, 1) := by decide +kernel
theorem dX9_panel_34 : decode cX9_panel 34 = .ok (.iload_n 2, 1) := by decide +kernel
theorem dX9_panel_35 : decode cX9_panel 35 = .ok (.iload_n 3, 1) := by decide +kernel
theorem dX9_panel_36 : decode cX9_panel 36 = .ok (.iload 4, 2) := by decide +kernel
theorem dX9_panel_38 : decode cX9_panel 38 = .ok (.i2l, 1) := by decide +kernel
theorem dX9_panel_39 : decode cX9_panel 39 = .ok (.invokevirtual 122, 3) := by decide +kernel
theorem dX9_panel_42 : decode cX9_panel 42 = .ok (.istore 5, 2) := by decide +kernel
theorem dX9_panel_44 : decode cX9_panel 44 = .ok (.iload 5, 2) := by decide +kernel
theorem dX9_panel_46 : decode cX9_panel 46 = .ok (.ifCond .ge 6, 3) := by decide +kernel
theorem dX9_panel_49 : decode cX9_panel 49 = .ok (.iload 5, 2) := by decide +kernel
theorem dX9_panel_51 : decode cX9_panel 51 = .ok (.ireturn, 1) := by decide +kernel
theorem dX9_panel_52 : decode cX9_panel 52 = .ok (.aload_n 0, 1) := by decide +kernel
theorem dX9_panel_53 : decode cX9_panel 53 = .ok (.bipush 60, 2) := by decide +kernel
theorem dX9_panel_55 : decode cX9_panel 55 = .ok (.iload_n 1, 1) := by decide +kernel
theorem dX9_panel_56 : decode cX9_panel 56 = .ok (.imul, 1) := by decide +kernel
theorem dX9_panel_57 : decode cX9_panel 57 = .ok (.iload_n 3, 1) := by decide +kernel
theorem dX9_panel_58 : decode cX9_panel 58 = .ok (.iadd, 1) := by decide +kernel
theorem dX9_panel_59 : decode cX9_panel 59 = .ok (.iload 4, 2) := by decide +kernel
theorem dX9_panel_61 : decode cX9_panel 61 = .ok (.invokevirtual 126, 3) := by decide +kernel
theorem dX9_panel_64 : decode cX9_panel 64 = .ok (.istore 6, 2) := by decide +kernel
theorem dX9_panel_66 : decode cX9_panel 66 = .ok (.iload 6, 2) := by decide +kernel
theorem dX9_panel_68 : decode cX9_panel 68 = .ok (.ifCond .ge 15, 3) := by decide +kernel
theorem dX9_panel_71 : decode cX9_panel 71 = .ok (.aload_n 0, 1) := by decide +kernel
theorem dX9_panel_72 : decode cX9_panel 72 = .ok (.bipush (-100), 2) := by decide +kernel
theorem dX9_panel_74 : decode cX9_panel 74 = .ok (.aload_n 0, 1) := by decide +kernel
theorem dX9_panel_75 : decode cX9_panel 75 = .ok (.getfield 84, 3) := by decide +kernel
theorem dX9_panel_78 : decode cX9_panel 78 = .ok (.isub, 1) := by decide +kernel
theorem dX9_panel_79 : decode cX9_panel 79 = .ok (.invokevirtual 117, 3) := by decide +kernel
theorem dX9_panel_82 : decode cX9_panel 82 = .ok (.ireturn, 1) := by decide +kernel
theorem dX9_panel_83 : decode cX9_panel 83 = .ok (.aload_n 0, 1) := by decide +kernel
theorem dX9_panel_84 : decode cX9_panel 84 = .ok (.iload 6, 2) := by decide +kernel
theorem dX9_panel_86 : decode cX9_panel 86 = .ok (.putfield 129, 3) := by decide +kernel
theorem dX9_panel_89 : decode cX9_panel 89 = .ok (.aload_n 0, 1) := by decide +kernel
theorem dX9_panel_90 : decode cX9_panel 90 = .ok (.iconst 0, 1) := by decide +kernel
theorem dX9_panel_91 : decode cX9_panel 91 = .ok (.putfield 132, 3) := by decide +kernel
theorem dX9_panel_94 : decode cX9_panel 94 = .ok (.aload_n 0, 1) := by decide +kernel
theorem dX9_panel_95 : decode cX9_panel 95 = .ok (.aload_n 0, 1) := by decide +kernel
theorem dX9_panel_96 : decode cX9_panel 96 = .ok (.getfield 95, 3) := by decide +kernel
theorem dX9_panel_99 : decode cX9_panel 99 = .ok (.putfield 77, 3) := by decide +kernel
theorem dX9_panel_102 : decode cX9_panel 102 = .ok (.iconst 0, 1) := by decide +kernel
theorem dX9_panel_103 : decode cX9_panel 103 = .ok (.istore 7, 2) := by decide +kernel
theorem dX9_panel_105 : decode cX9_panel 105 = .ok (.iload 7, 2) := by decide +kernel
theorem dX9_panel_107 : decode cX9_panel 107 = .ok (.aload_n 0, 1) := by decide +kernel
theorem dX9_panel_108 : decode cX9_panel 108 = .ok (.getfield 77, 3) := by decide +kernel
theorem dX9_panel_111 : decode cX9_panel 111 = .ok (.if_icmp .ge 51, 3) := by decide +kernel
theorem dX9_panel_114 : decode cX9_panel 114 = .ok (.aload_n 0, 1) := by decide +kernel
theorem dX9_panel_115 : decode cX9_panel 115 = .ok (.getfield 7, 3) := by decide +kernel
theorem dX9_panel_118 : decode cX9_panel 118 = .ok (.iload 7, 2) := by decide +kernel
theorem dX9_panel_120 : decode cX9_panel 120 = .ok (.aload_n 0, 1) := by decide +kernel
theorem dX9_panel_121 : decode cX9_panel 121 = .ok (.getfield 22, 3) := by decide +kernel
theorem dX9_panel_124 : decode cX9_panel 124 = .ok (.iload 7, 2) := by decide +kernel
theorem dX9_panel_126 : decode cX9_panel 126 = .ok (.iaload, 1) := by decide +kernel
theorem dX9_panel_127 : decode cX9_panel 127 = .ok (.iastore, 1) := by decide +kernel
theorem dX9_panel_128 : decode cX9_panel 128 = .ok (.aload_n 0, 1) := by decide +kernel
theorem dX9_panel_129 : decode cX9_panel 129 = .ok (.getfield 13, 3) := by decide +kernel
theorem dX9_panel_132 : decode cX9_panel 132 = .ok (.iload 7, 2) := by decide +kernel
theorem dX9_panel_134 : decode cX9_panel 134 = .ok (.aload_n 0, 1) := by decide +kernel
theorem dX9_panel_135 : decode cX9_panel 135 = .ok (.getfield 25, 3) := by decide +kernel
theorem dX9_panel_138 : decode cX9_panel 138 = .ok (.iload 7, 2) := by decide +kernel
theorem dX9_panel_140 : decode cX9_panel 140 = .ok (.iaload, 1) := by decide +kernel
theorem dX9_panel_141 : decode cX9_panel 141 = .ok (.iastore, 1) := by decide +kernel
theorem dX9_panel_142 : decode cX9_panel 142 = .ok (.aload_n 0, 1) := by decide +kernel
theorem dX9_panel_143 : decode cX9_panel 143 = .ok (.getfield 16, 3) := by decide +kernel
theorem dX9_panel_146 : decode cX9_panel 146 = .ok (.iload 7, 2) := by decide +kernel
theorem dX9_panel_148 : decode cX9_panel 148 = .ok (.aload_n 0, 1) := by decide +kernel
theorem dX9_panel_149 : decode cX9_panel 149 = .ok (.getfield 28, 3) := by decide +kernel
theorem dX9_panel_152 : decode cX9_panel 152 = .ok (.iload 7, 2) := by decide +kernel
theorem dX9_panel_154 : decode cX9_panel 154 = .ok (.iaload, 1) := by decide +kernel
theorem dX9_panel_155 : decode cX9_panel 155 = .ok (.iastore, 1) := by decide +kernel
theorem dX9_panel_156 : decode cX9_panel 156 = .ok (.iinc 7 1, 3) := by decide +kernel
theorem dX9_panel_159 : decode cX9_panel 159 = .ok (.goto (-54), 3) := by decide +kernel
theorem dX9_panel_162 : decode cX9_panel 162 = .ok (.iconst 0, 1) := by decide +kernel
theorem dX9_panel_163 : decode cX9_panel 163 = .ok (.istore 7, 2) := by decide +kernel
theorem dX9_panel_165 : decode cX9_panel 165 = .ok (.iload 7, 2) := by decide +kernel
theorem dX9_panel_167 : decode cX9_panel 167 = .ok (.bipush 28, 2) := by decide +kernel
theorem dX9_panel_169 : decode cX9_panel 169 = .ok (.if_icmp .ge 17, 3) := by decide +kernel
theorem dX9_panel_172 : decode cX9_panel 172 = .ok (.aload_n 0, 1) := by decide +kernel
theorem dX9_panel_173 : decode cX9_panel 173 = .ok (.getfield 19, 3) := by decide +kernel
theorem dX9_panel_176 : decode cX9_panel 176 = .ok (.iload 7, 2) := by decide +kernel
theorem dX9_panel_178 : decode cX9_panel 178 = .ok (.iconst 0, 1) := by decide +kernel
theorem dX9_panel_179 : decode cX9_panel 179 = .ok (.iastore, 1) := by decide +kernel
theorem dX9_panel_180 : decode cX9_panel 180 = .ok (.iinc 7 1, 3) := by decide +kernel
theorem dX9_panel_183 : decode cX9_panel 183 = .ok (.goto (-18), 3) := by decide +kernel
theorem dX9_panel_186 : decode cX9_panel 186 = .ok (.aload_n 0, 1) := by decide +kernel
theorem dX9_panel_187 : decode cX9_panel 187 = .ok (.iconst 0, 1) := by decide +kernel
theorem dX9_panel_188 : decode cX9_panel 188 = .ok (.putfield 135, 3) := by decide +kernel
theorem dX9_panel_191 : decode cX9_panel 191 = .ok (.aload_n 0, 1) := by decide +kernel
theorem dX9_panel_192 : decode cX9_panel 192 = .ok (.aload_n 0, 1) := by decide +kernel
theorem dX9_panel_193 : decode cX9_panel 193 = .ok (.getfield 77, 3) := by decide +kernel
theorem dX9_panel_196 : decode cX9_panel 196 = .ok (.invokevirtual 117, 3) := by decide +kernel
theorem dX9_panel_199 : decode cX9_panel 199 = .ok (.ireturn, 1) := by decide +kernel
theorem dX9_figureOf_0 : decode cX9_figureOf 0 = .ok (.iload_n 0, 1) := by decide +kernel
theorem dX9_figureOf_1 : decode cX9_figureOf 1 = .ok (.tableswitch 78 0 8 #[51, 54, 57, 60, 63, 66, 69, 72, 75], 51) := by decide +kernel
theorem dX9_figureOf_52 : decode cX9_figureOf 52 = .ok (.bipush 63, 2) := by decide +kernel
theorem dX9_figureOf_54 : decode cX9_figureOf 54 = .ok (.ireturn, 1) := by decide +kernel
theorem dX9_figureOf_55 : decode cX9_figureOf 55 = .ok (.bipush 6, 2) := by decide +kernel
theorem dX9_figureOf_57 : decode cX9_figureOf 57 = .ok (.ireturn, 1) := by decide +kernel
theorem dX9_figureOf_58 : decode cX9_figureOf 58 = .ok (.bipush 91, 2) := by decide +kernel
theorem dX9_figureOf_60 : decode cX9_figureOf 60 = .ok (.ireturn, 1) := by decide +kernel
theorem dX9_figureOf_61 : decode cX9_figureOf 61 = .ok (.bipush 79, 2) := by decide +kernel
theorem dX9_figureOf_63 : decode cX9_figureOf 63 = .ok (.ireturn, 1) := by decide +kernel
theorem dX9_figureOf_64 : decode cX9_figureOf 64 = .ok (.bipush 102, 2) := by decide +kernel
theorem dX9_figureOf_66 : decode cX9_figureOf 66 = .ok (.ireturn, 1) := by decide +kernel
theorem dX9_figureOf_67 : decode cX9_figureOf 67 = .ok (.bipush 109, 2) := by decide +kernel
theorem dX9_figureOf_69 : decode cX9_figureOf 69 = .ok (.ireturn, 1) := by decide +kernel
theorem dX9_figureOf_70 : decode cX9_figureOf 70 = .ok (.bipush 125, 2) := by decide +kernel
theorem dX9_figureOf_72 : decode cX9_figureOf 72 = .ok (.ireturn, 1) := by decide +kernel
theorem dX9_figureOf_73 : decode cX9_figureOf 73 = .ok (.bipush 7, 2) := by decide +kernel
theorem dX9_figureOf_75 : decode cX9_figureOf 75 = .ok (.ireturn, 1) := by decide +kernel
theorem dX9_figureOf_76 : decode cX9_figureOf 76 = .ok (.bipush 127, 2) := by decide +kernel
theorem dX9_figureOf_78 : decode cX9_figureOf 78 = .ok (.ireturn, 1) := by decide +kernel
theorem dX9_figureOf_79 : decode cX9_figureOf 79 = .ok (.bipush 111, 2) := by decide +kernel
theorem dX9_figureOf_81 : decode cX9_figureOf 81 = .ok (.ireturn, 1) := by decide +kernel
theorem dX9_exchanged_0 : decode cX9_exchanged 0 = .ok (.iload_n 0, 1) := by decide +kernel
theorem dX9_exchanged_1 : decode cX9_exchanged 1 = .ok (.iconst 1, 1) := by decide +kernel
theorem dX9_exchanged_2 : decode cX9_exchanged 2 = .ok (.iload_n 1, 1) := by decide +kernel
theorem dX9_exchanged_3 : decode cX9_exchanged 3 = .ok (.ishl, 1) := by decide +kernel
theorem dX9_exchanged_4 : decode cX9_exchanged 4 = .ok (.iconst (-1), 1) := by decide +kernel
theorem dX9_exchanged_5 : decode cX9_exchanged 5 = .ok (.ixor, 1) := by decide +kernel
theorem dX9_exchanged_6 : decode cX9_exchanged 6 = .ok (.iand, 1) := by decide +kernel
theorem dX9_exchanged_7 : decode cX9_exchanged 7 = .ok (.iconst 1, 1) := by decide +kernel
theorem dX9_exchanged_8 : decode cX9_exchanged 8 = .ok (.iload_n 2, 1) := by decide +kernel
theorem dX9_exchanged_9 : decode cX9_exchanged 9 = .ok (.ishl, 1) := by decide +kernel
theorem dX9_exchanged_10 : decode cX9_exchanged 10 = .ok (.iconst (-1), 1) := by decide +kernel
theorem dX9_exchanged_11 : decode cX9_exchanged 11 = .ok (.ixor, 1) := by decide +kernel
theorem dX9_exchanged_12 : decode cX9_exchanged 12 = .ok (.iand, 1) := by decide +kernel
theorem dX9_exchanged_13 : decode cX9_exchanged 13 = .ok (.istore_n 3, 1) := by decide +kernel
theorem dX9_exchanged_14 : decode cX9_exchanged 14 = .ok (.iload_n 3, 1) := by decide +kernel
theorem dX9_exchanged_15 : decode cX9_exchanged 15 = .ok (.iload_n 0, 1) := by decide +kernel
theorem dX9_exchanged_16 : decode cX9_exchanged 16 = .ok (.iload_n 1, 1) := by decide +kernel
theorem dX9_exchanged_17 : decode cX9_exchanged 17 = .ok (.ishr, 1) := by decide +kernel
theorem dX9_exchanged_18 : decode cX9_exchanged 18 = .ok (.iconst 1, 1) := by decide +kernel
theorem dX9_exchanged_19 : decode cX9_exchanged 19 = .ok (.iand, 1) := by decide +kernel
theorem dX9_exchanged_20 : decode cX9_exchanged 20 = .ok (.iload_n 2, 1) := by decide +kernel
theorem dX9_exchanged_21 : decode cX9_exchanged 21 = .ok (.ishl, 1) := by decide +kernel
theorem dX9_exchanged_22 : decode cX9_exchanged 22 = .ok (.ior, 1) := by decide +kernel
theorem dX9_exchanged_23 : decode cX9_exchanged 23 = .ok (.iload_n 0, 1) := by decide +kernel
theorem dX9_exchanged_24 : decode cX9_exchanged 24 = .ok (.iload_n 2, 1) := by decide +kernel
theorem dX9_exchanged_25 : decode cX9_exchanged 25 = .ok (.ishr, 1) := by decide +kernel
theorem dX9_exchanged_26 : decode cX9_exchanged 26 = .ok (.iconst 1, 1) := by decide +kernel
theorem dX9_exchanged_27 : decode cX9_exchanged 27 = .ok (.iand, 1) := by decide +kernel
theorem dX9_exchanged_28 : decode cX9_exchanged 28 = .ok (.iload_n 1, 1) := by decide +kernel
theorem dX9_exchanged_29 : decode cX9_exchanged 29 = .ok (.ishl, 1) := by decide +kernel
theorem dX9_exchanged_30 : decode cX9_exchanged 30 = .ok (.ior, 1) := by decide +kernel
theorem dX9_exchanged_31 : decode cX9_exchanged 31 = .ok (.ireturn, 1) := by decide +kernel
theorem dX9_mirrored_0 : decode cX9_mirrored 0 = .ok (.iload_n 0, 1) := by decide +kernel
theorem dX9_mirrored_1 : decode cX9_mirrored 1 = .ok (.iconst 1, 1) := by decide +kernel
theorem dX9_mirrored_2 : decode cX9_mirrored 2 = .ok (.iconst 5, 1) := by decide +kernel
theorem dX9_mirrored_3 : decode cX9_mirrored 3 = .ok (.invokestatic 138, 3) := by decide +kernel
theorem dX9_mirrored_6 : decode cX9_mirrored 6 = .ok (.iconst 2, 1) := by decide +kernel
theorem dX9_mirrored_7 : decode cX9_mirrored 7 = .ok (.iconst 4, 1) := by decide +kernel
theorem dX9_mirrored_8 : decode cX9_mirrored 8 = .ok (.invokestatic 138, 3) := by decide +kernel
theorem dX9_mirrored_11 : decode cX9_mirrored 11 = .ok (.ireturn, 1) := by decide +kernel
theorem dX9_turned_0 : decode cX9_turned 0 = .ok (.iload_n 0, 1) := by decide +kernel
theorem dX9_turned_1 : decode cX9_turned 1 = .ok (.iconst 0, 1) := by decide +kernel
theorem dX9_turned_2 : decode cX9_turned 2 = .ok (.iconst 3, 1) := by decide +kernel
theorem dX9_turned_3 : decode cX9_turned 3 = .ok (.invokestatic 138, 3) := by decide +kernel
theorem dX9_turned_6 : decode cX9_turned 6 = .ok (.iconst 1, 1) := by decide +kernel
theorem dX9_turned_7 : decode cX9_turned 7 = .ok (.iconst 2, 1) := by decide +kernel
theorem dX9_turned_8 : decode cX9_turned 8 = .ok (.invokestatic 138, 3) := by decide +kernel
theorem dX9_turned_11 : decode cX9_turned 11 = .ok (.iconst 4, 1) := by decide +kernel
theorem dX9_turned_12 : decode cX9_turned 12 = .ok (.iconst 5, 1) := by decide +kernel
theorem dX9_turned_13 : decode cX9_turned 13 = .ok (.invokestatic 138, 3) := by decide +kernel
theorem dX9_turned_16 : decode cX9_turned 16 = .ok (.ireturn, 1) := by decide +kernel
theorem dX9_faceOf_0 : decode cX9_faceOf 0 = .ok (.iload_n 1, 1) := by decide +kernel
theorem dX9_faceOf_1 : decode cX9_faceOf 1 = .ok (.invokestatic 142, 3) := by decide +kernel
theorem dX9_faceOf_4 : decode cX9_faceOf 4 = .ok (.istore_n 2, 1) := by decide +kernel
theorem dX9_faceOf_5 : decode cX9_faceOf 5 = .ok (.iload_n 0, 1) := by decide +kernel
theorem dX9_faceOf_6 : decode cX9_faceOf 6 = .ok (.ifCond .ne 7, 3) := by decide +kernel
theorem dX9_faceOf_9 : decode cX9_faceOf 9 = .ok (.iload_n 2, 1) := by decide +kernel
theorem dX9_faceOf_10 : decode cX9_faceOf 10 = .ok (.goto 22, 3) := by decide +kernel
theorem dX9_faceOf_13 : decode cX9_faceOf 13 = .ok (.iload_n 0, 1) := by decide +kernel
theorem dX9_faceOf_14 : decode cX9_faceOf 14 = .ok (.iconst 1, 1) := by decide +kernel
theorem dX9_faceOf_15 : decode cX9_faceOf 15 = .ok (.if_icmp .ne 10, 3) := by decide +kernel
theorem dX9_faceOf_18 : decode cX9_faceOf 18 = .ok (.iload_n 2, 1) := by decide +kernel
theorem dX9_faceOf_19 : decode cX9_faceOf 19 = .ok (.invokestatic 145, 3) := by decide +kernel
theorem dX9_faceOf_22 : decode cX9_faceOf 22 = .ok (.goto 10, 3) := by decide +kernel
theorem dX9_faceOf_25 : decode cX9_faceOf 25 = .ok (.iload_n 2, 1) := by decide +kernel
theorem dX9_faceOf_26 : decode cX9_faceOf 26 = .ok (.invokestatic 145, 3) := by decide +kernel
theorem dX9_faceOf_29 : decode cX9_faceOf 29 = .ok (.invokestatic 148, 3) := by decide +kernel
theorem dX9_faceOf_32 : decode cX9_faceOf 32 = .ok (.ireturn, 1) := by decide +kernel
theorem dX9_burnsAt_0 : decode cX9_burnsAt 0 = .ok (.aload_n 0, 1) := by decide +kernel
theorem dX9_burnsAt_1 : decode cX9_burnsAt 1 = .ok (.getfield 7, 3) := by decide +kernel
theorem dX9_burnsAt_4 : decode cX9_burnsAt 4 = .ok (.iload_n 1, 1) := by decide +kernel
theorem dX9_burnsAt_5 : decode cX9_burnsAt 5 = .ok (.iaload, 1) := by decide +kernel
theorem dX9_burnsAt_6 : decode cX9_burnsAt 6 = .ok (.iload_n 2, 1) := by decide +kernel
theorem dX9_burnsAt_7 : decode cX9_burnsAt 7 = .ok (.invokestatic 151, 3) := by decide +kernel
theorem dX9_burnsAt_10 : decode cX9_burnsAt 10 = .ok (.aload_n 0, 1) := by decide +kernel
theorem dX9_burnsAt_11 : decode cX9_burnsAt 11 = .ok (.getfield 13, 3) := by decide +kernel
theorem dX9_burnsAt_14 : decode cX9_burnsAt 14 = .ok (.iload_n 1, 1) := by decide +kernel
theorem dX9_burnsAt_15 : decode cX9_burnsAt 15 = .ok (.iaload, 1) := by decide +kernel
theorem dX9_burnsAt_16 : decode cX9_burnsAt 16 = .ok (.iconst (-1), 1) := by decide +kernel
theorem dX9_burnsAt_17 : decode cX9_burnsAt 17 = .ok (.ixor, 1) := by decide +kernel
theorem dX9_burnsAt_18 : decode cX9_burnsAt 18 = .ok (.iand, 1) := by decide +kernel
theorem dX9_burnsAt_19 : decode cX9_burnsAt 19 = .ok (.aload_n 0, 1) := by decide +kernel
theorem dX9_burnsAt_20 : decode cX9_burnsAt 20 = .ok (.getfield 16, 3) := by decide +kernel
theorem dX9_burnsAt_23 : decode cX9_burnsAt 23 = .ok (.iload_n 1, 1) := by decide +kernel
theorem dX9_burnsAt_24 : decode cX9_burnsAt 24 = .ok (.iaload, 1) := by decide +kernel
theorem dX9_burnsAt_25 : decode cX9_burnsAt 25 = .ok (.ior, 1) := by decide +kernel
theorem dX9_burnsAt_26 : decode cX9_burnsAt 26 = .ok (.ireturn, 1) := by decide +kernel
theorem dX9_ten_0 : decode cX9_ten 0 = .ok (.iconst 1, 1) := by decide +kernel
theorem dX9_ten_1 : decode cX9_ten 1 = .ok (.istore_n 2, 1) := by decide +kernel
theorem dX9_ten_2 : decode cX9_ten 2 = .ok (.iconst 0, 1) := by decide +kernel
theorem dX9_ten_3 : decode cX9_ten 3 = .ok (.istore_n 3, 1) := by decide +kernel
theorem dX9_ten_4 : decode cX9_ten 4 = .ok (.iload_n 3, 1) := by decide +kernel
theorem dX9_ten_5 : decode cX9_ten 5 = .ok (.iload_n 1, 1) := by decide +kernel
theorem dX9_ten_6 : decode cX9_ten 6 = .ok (.if_icmp .ge 14, 3) := by decide +kernel
theorem dX9_ten_9 : decode cX9_ten 9 = .ok (.iload_n 2, 1) := by decide +kernel
theorem dX9_ten_10 : decode cX9_ten 10 = .ok (.bipush 10, 2) := by decide +kernel
theorem dX9_ten_12 : decode cX9_ten 12 = .ok (.imul, 1) := by decide +kernel
theorem dX9_ten_13 : decode cX9_ten 13 = .ok (.istore_n 2, 1) := by decide +kernel
theorem dX9_ten_14 : decode cX9_ten 14 = .ok (.iinc 3 1, 3) := by decide +kernel
theorem dX9_ten_17 : decode cX9_ten 17 = .ok (.goto (-13), 3) := by decide +kernel
theorem dX9_ten_20 : decode cX9_ten 20 = .ok (.iload_n 2, 1) := by decide +kernel
theorem dX9_ten_21 : decode cX9_ten 21 = .ok (.ireturn, 1) := by decide +kernel
theorem dX9_last_0 : decode cX9_last 0 = .ok (.aload_n 0, 1) := by decide +kernel
theorem dX9_last_1 : decode cX9_last 1 = .ok (.aload_n 0, 1) := by decide +kernel
theorem dX9_last_2 : decode cX9_last 2 = .ok (.getfield 77, 3) := by decide +kernel
theorem dX9_last_5 : decode cX9_last 5 = .ok (.invokevirtual 154, 3) := by decide +kernel
theorem dX9_last_8 : decode cX9_last 8 = .ok (.iconst 1, 1) := by decide +kernel
theorem dX9_last_9 : decode cX9_last 9 = .ok (.isub, 1) := by decide +kernel
theorem dX9_last_10 : decode cX9_last 10 = .ok (.ireturn, 1) := by decide +kernel
theorem dX9_digitAt_0 : decode cX9_digitAt 0 = .ok (.iload_n 2, 1) := by decide +kernel
theorem dX9_digitAt_1 : decode cX9_digitAt 1 = .ok (.aload_n 0, 1) := by decide +kernel
theorem dX9_digitAt_2 : decode cX9_digitAt 2 = .ok (.aload_n 0, 1) := by decide +kernel
theorem dX9_digitAt_3 : decode cX9_digitAt 3 = .ok (.getfield 77, 3) := by decide +kernel
theorem dX9_digitAt_6 : decode cX9_digitAt 6 = .ok (.iconst 1, 1) := by decide +kernel
theorem dX9_digitAt_7 : decode cX9_digitAt 7 = .ok (.isub, 1) := by decide +kernel
theorem dX9_digitAt_8 : decode cX9_digitAt 8 = .ok (.iload_n 1, 1) := by decide +kernel
theorem dX9_digitAt_9 : decode cX9_digitAt 9 = .ok (.isub, 1) := by decide +kernel
theorem dX9_digitAt_10 : decode cX9_digitAt 10 = .ok (.invokevirtual 154, 3) := by decide +kernel
theorem dX9_digitAt_13 : decode cX9_digitAt 13 = .ok (.idiv, 1) := by decide +kernel
theorem dX9_digitAt_14 : decode cX9_digitAt 14 = .ok (.bipush 10, 2) := by decide +kernel
theorem dX9_digitAt_16 : decode cX9_digitAt 16 = .ok (.irem, 1) := by decide +kernel
theorem dX9_digitAt_17 : decode cX9_digitAt 17 = .ok (.ireturn, 1) := by decide +kernel
theorem dX9_unlikeAt_0 : decode cX9_unlikeAt 0 = .ok (.iconst 0, 1) := by decide +kernel
theorem dX9_unlikeAt_1 : decode cX9_unlikeAt 1 = .ok (.istore_n 2, 1) := by decide +kernel
theorem dX9_unlikeAt_2 : decode cX9_unlikeAt 2 = .ok (.iconst 0, 1) := by decide +kernel
theorem dX9_unlikeAt_3 : decode cX9_unlikeAt 3 = .ok (.istore_n 3, 1) := by decide +kernel
theorem dX9_unlikeAt_4 : decode cX9_unlikeAt 4 = .ok (.iload_n 3, 1) := by decide +kernel
theorem dX9_unlikeAt_5 : decode cX9_unlikeAt 5 = .ok (.bipush 10, 2) := by decide +kernel
theorem dX9_unlikeAt_7 : decode cX9_unlikeAt 7 = .ok (.if_icmp .ge 68, 3) := by decide +kernel
theorem dX9_unlikeAt_10 : decode cX9_unlikeAt 10 = .ok (.iconst 1, 1) := by decide +kernel
theorem dX9_unlikeAt_11 : decode cX9_unlikeAt 11 = .ok (.istore 4, 2) := by decide +kernel
theorem dX9_unlikeAt_13 : decode cX9_unlikeAt 13 = .ok (.iconst 0, 1) := by decide +kernel
theorem dX9_unlikeAt_14 : decode cX9_unlikeAt 14 = .ok (.istore 5, 2) := by decide +kernel
theorem dX9_unlikeAt_16 : decode cX9_unlikeAt 16 = .ok (.iload 5, 2) := by decide +kernel
theorem dX9_unlikeAt_18 : decode cX9_unlikeAt 18 = .ok (.iload_n 3, 1) := by decide +kernel
theorem dX9_unlikeAt_19 : decode cX9_unlikeAt 19 = .ok (.if_icmp .ge 37, 3) := by decide +kernel
theorem dX9_unlikeAt_22 : decode cX9_unlikeAt 22 = .ok (.iload 4, 2) := by decide +kernel
theorem dX9_unlikeAt_24 : decode cX9_unlikeAt 24 = .ok (.ifCond .eq 23, 3) := by decide +kernel
theorem dX9_unlikeAt_27 : decode cX9_unlikeAt 27 = .ok (.aload_n 0, 1) := by decide +kernel
theorem dX9_unlikeAt_28 : decode cX9_unlikeAt 28 = .ok (.iload_n 1, 1) := by decide +kernel
theorem dX9_unlikeAt_29 : decode cX9_unlikeAt 29 = .ok (.iload 5, 2) := by decide +kernel
theorem dX9_unlikeAt_31 : decode cX9_unlikeAt 31 = .ok (.invokevirtual 157, 3) := by decide +kernel
theorem dX9_unlikeAt_34 : decode cX9_unlikeAt 34 = .ok (.aload_n 0, 1) := by decide +kernel
theorem dX9_unlikeAt_35 : decode cX9_unlikeAt 35 = .ok (.iload_n 1, 1) := by decide +kernel
theorem dX9_unlikeAt_36 : decode cX9_unlikeAt 36 = .ok (.iload_n 3, 1) := by decide +kernel
theorem dX9_unlikeAt_37 : decode cX9_unlikeAt 37 = .ok (.invokevirtual 157, 3) := by decide +kernel
theorem dX9_unlikeAt_40 : decode cX9_unlikeAt 40 = .ok (.if_icmp .eq 7, 3) := by decide +kernel
theorem dX9_unlikeAt_43 : decode cX9_unlikeAt 43 = .ok (.iconst 1, 1) := by decide +kernel
theorem dX9_unlikeAt_44 : decode cX9_unlikeAt 44 = .ok (.goto 4, 3) := by decide +kernel
theorem dX9_unlikeAt_47 : decode cX9_unlikeAt 47 = .ok (.iconst 0, 1) := by decide +kernel
theorem dX9_unlikeAt_48 : decode cX9_unlikeAt 48 = .ok (.istore 4, 2) := by decide +kernel
theorem dX9_unlikeAt_50 : decode cX9_unlikeAt 50 = .ok (.iinc 5 1, 3) := by decide +kernel
theorem dX9_unlikeAt_53 : decode cX9_unlikeAt 53 = .ok (.goto (-37), 3) := by decide +kernel
theorem dX9_unlikeAt_56 : decode cX9_unlikeAt 56 = .ok (.iload_n 2, 1) := by decide +kernel
theorem dX9_unlikeAt_57 : decode cX9_unlikeAt 57 = .ok (.iload 4, 2) := by decide +kernel
theorem dX9_unlikeAt_59 : decode cX9_unlikeAt 59 = .ok (.ifCond .eq 7, 3) := by decide +kernel
theorem dX9_unlikeAt_62 : decode cX9_unlikeAt 62 = .ok (.iconst 1, 1) := by decide +kernel
theorem dX9_unlikeAt_63 : decode cX9_unlikeAt 63 = .ok (.goto 4, 3) := by decide +kernel
theorem dX9_unlikeAt_66 : decode cX9_unlikeAt 66 = .ok (.iconst 0, 1) := by decide +kernel
theorem dX9_unlikeAt_67 : decode cX9_unlikeAt 67 = .ok (.iadd, 1) := by decide +kernel
theorem dX9_unlikeAt_68 : decode cX9_unlikeAt 68 = .ok (.istore_n 2, 1) := by decide +kernel
theorem dX9_unlikeAt_69 : decode cX9_unlikeAt 69 = .ok (.iinc 3 1, 3) := by decide +kernel
theorem dX9_unlikeAt_72 : decode cX9_unlikeAt 72 = .ok (.goto (-68), 3) := by decide +kernel
theorem dX9_unlikeAt_75 : decode cX9_unlikeAt 75 = .ok (.iload_n 2, 1) := by decide +kernel
theorem dX9_unlikeAt_76 : decode cX9_unlikeAt 76 = .ok (.ireturn, 1) := by decide +kernel
theorem dX9_ofPlace_0 : decode cX9_ofPlace 0 = .ok (.aload_n 0, 1) := by decide +kernel
theorem dX9_ofPlace_1 : decode cX9_ofPlace 1 = .ok (.iload_n 1, 1) := by decide +kernel
theorem dX9_ofPlace_2 : decode cX9_ofPlace 2 = .ok (.invokevirtual 160, 3) := by decide +kernel
theorem dX9_ofPlace_5 : decode cX9_ofPlace 5 = .ok (.ifCond .eq 5, 3) := by decide +kernel
theorem dX9_ofPlace_8 : decode cX9_ofPlace 8 = .ok (.iconst (-1), 1) := by decide +kernel
theorem dX9_ofPlace_9 : decode cX9_ofPlace 9 = .ok (.ireturn, 1) := by decide +kernel
theorem dX9_ofPlace_10 : decode cX9_ofPlace 10 = .ok (.iload_n 2, 1) := by decide +kernel
theorem dX9_ofPlace_11 : decode cX9_ofPlace 11 = .ok (.tableswitch 75 0 4 #[33, 40, 47, 54, 60], 33) := by decide +kernel
theorem dX9_ofPlace_44 : decode cX9_ofPlace 44 = .ok (.aload_n 0, 1) := by decide +kernel
theorem dX9_ofPlace_45 : decode cX9_ofPlace 45 = .ok (.getfield 7, 3) := by decide +kernel
theorem dX9_ofPlace_48 : decode cX9_ofPlace 48 = .ok (.iload_n 1, 1) := by decide +kernel
theorem dX9_ofPlace_49 : decode cX9_ofPlace 49 = .ok (.iaload, 1) := by decide +kernel
theorem dX9_ofPlace_50 : decode cX9_ofPlace 50 = .ok (.ireturn, 1) := by decide +kernel
theorem dX9_ofPlace_51 : decode cX9_ofPlace 51 = .ok (.aload_n 0, 1) := by decide +kernel
theorem dX9_ofPlace_52 : decode cX9_ofPlace 52 = .ok (.getfield 13, 3) := by decide +kernel
theorem dX9_ofPlace_55 : decode cX9_ofPlace 55 = .ok (.iload_n 1, 1) := by decide +kernel
theorem dX9_ofPlace_56 : decode cX9_ofPlace 56 = .ok (.iaload, 1) := by decide +kernel
theorem dX9_ofPlace_57 : decode cX9_ofPlace 57 = .ok (.ireturn, 1) := by decide +kernel
theorem dX9_ofPlace_58 : decode cX9_ofPlace 58 = .ok (.aload_n 0, 1) := by decide +kernel
theorem dX9_ofPlace_59 : decode cX9_ofPlace 59 = .ok (.getfield 16, 3) := by decide +kernel
theorem dX9_ofPlace_62 : decode cX9_ofPlace 62 = .ok (.iload_n 1, 1) := by decide +kernel
theorem dX9_ofPlace_63 : decode cX9_ofPlace 63 = .ok (.iaload, 1) := by decide +kernel
theorem dX9_ofPlace_64 : decode cX9_ofPlace 64 = .ok (.ireturn, 1) := by decide +kernel
theorem dX9_ofPlace_65 : decode cX9_ofPlace 65 = .ok (.aload_n 0, 1) := by decide +kernel
theorem dX9_ofPlace_66 : decode cX9_ofPlace 66 = .ok (.iload_n 1, 1) := by decide +kernel
theorem dX9_ofPlace_67 : decode cX9_ofPlace 67 = .ok (.invokevirtual 163, 3) := by decide +kernel
theorem dX9_ofPlace_70 : decode cX9_ofPlace 70 = .ok (.ireturn, 1) := by decide +kernel
theorem dX9_ofPlace_71 : decode cX9_ofPlace 71 = .ok (.aload_n 0, 1) := by decide +kernel
theorem dX9_ofPlace_72 : decode cX9_ofPlace 72 = .ok (.iload_n 1, 1) := by decide +kernel
theorem dX9_ofPlace_73 : decode cX9_ofPlace 73 = .ok (.aload_n 0, 1) := by decide +kernel
theorem dX9_ofPlace_74 : decode cX9_ofPlace 74 = .ok (.iload_n 1, 1) := by decide +kernel
theorem dX9_ofPlace_75 : decode cX9_ofPlace 75 = .ok (.aload_n 0, 1) := by decide +kernel
theorem dX9_ofPlace_76 : decode cX9_ofPlace 76 = .ok (.getfield 132, 3) := by decide +kernel
theorem dX9_ofPlace_79 : decode cX9_ofPlace 79 = .ok (.invokevirtual 166, 3) := by decide +kernel
theorem dX9_ofPlace_82 : decode cX9_ofPlace 82 = .ok (.invokevirtual 157, 3) := by decide +kernel
theorem dX9_ofPlace_85 : decode cX9_ofPlace 85 = .ok (.ireturn, 1) := by decide +kernel
theorem dX9_ofPlace_86 : decode cX9_ofPlace 86 = .ok (.bipush (-2), 2) := by decide +kernel
theorem dX9_ofPlace_88 : decode cX9_ofPlace 88 = .ok (.ireturn, 1) := by decide +kernel
theorem dX9_wear_0 : decode cX9_wear 0 = .ok (.aload_n 0, 1) := by decide +kernel
theorem dX9_wear_1 : decode cX9_wear 1 = .ok (.iload_n 1, 1) := by decide +kernel
theorem dX9_wear_2 : decode cX9_wear 2 = .ok (.invokevirtual 160, 3) := by decide +kernel
theorem dX9_wear_5 : decode cX9_wear 5 = .ok (.ifCond .ne 15, 3) := by decide +kernel
theorem dX9_wear_8 : decode cX9_wear 8 = .ok (.iload_n 2, 1) := by decide +kernel
theorem dX9_wear_9 : decode cX9_wear 9 = .ok (.i2l, 1) := by decide +kernel
theorem dX9_wear_10 : decode cX9_wear 10 = .ok (.lconst 0, 1) := by decide +kernel
theorem dX9_wear_11 : decode cX9_wear 11 = .ok (.ldc2_w 169, 3) := by decide +kernel
theorem dX9_wear_14 : decode cX9_wear 14 = .ok (.invokestatic 80, 3) := by decide +kernel
theorem dX9_wear_17 : decode cX9_wear 17 = .ok (.ifCond .ne 7, 3) := by decide +kernel
theorem dX9_wear_20 : decode cX9_wear 20 = .ok (.iconst (-1), 1) := by decide +kernel
theorem dX9_wear_21 : decode cX9_wear 21 = .ok (.goto 14, 3) := by decide +kernel
theorem dX9_wear_24 : decode cX9_wear 24 = .ok (.aload_n 0, 1) := by decide +kernel
theorem dX9_wear_25 : decode cX9_wear 25 = .ok (.getfield 19, 3) := by decide +kernel
theorem dX9_wear_28 : decode cX9_wear 28 = .ok (.bipush 7, 2) := by decide +kernel
theorem dX9_wear_30 : decode cX9_wear 30 = .ok (.iload_n 1, 1) := by decide +kernel
theorem dX9_wear_31 : decode cX9_wear 31 = .ok (.imul, 1) := by decide +kernel
theorem dX9_wear_32 : decode cX9_wear 32 = .ok (.iload_n 2, 1) := by decide +kernel
theorem dX9_wear_33 : decode cX9_wear 33 = .ok (.iadd, 1) := by decide +kernel
theorem dX9_wear_34 : decode cX9_wear 34 = .ok (.iaload, 1) := by decide +kernel
theorem dX9_wear_35 : decode cX9_wear 35 = .ok (.ireturn, 1) := by decide +kernel
theorem dX9_kill_0 : decode cX9_kill 0 = .ok (.aload_n 0, 1) := by decide +kernel
theorem dX9_kill_1 : decode cX9_kill 1 = .ok (.iload_n 1, 1) := by decide +kernel
theorem dX9_kill_2 : decode cX9_kill 2 = .ok (.invokevirtual 160, 3) := by decide +kernel
theorem dX9_kill_5 : decode cX9_kill 5 = .ok (.ifCond .eq 5, 3) := by decide +kernel
theorem dX9_kill_8 : decode cX9_kill 8 = .ok (.iconst (-1), 1) := by decide +kernel
theorem dX9_kill_9 : decode cX9_kill 9 = .ok (.ireturn, 1) := by decide +kernel
theorem dX9_kill_10 : decode cX9_kill 10 = .ok (.iload_n 2, 1) := by decide +kernel
theorem dX9_kill_11 : decode cX9_kill 11 = .ok (.i2l, 1) := by decide +kernel
theorem dX9_kill_12 : decode cX9_kill 12 = .ok (.lconst 0, 1) := by decide +kernel
theorem dX9_kill_13 : decode cX9_kill 13 = .ok (.ldc2_w 171, 3) := by decide +kernel
theorem dX9_kill_16 : decode cX9_kill 16 = .ok (.invokestatic 80, 3) := by decide +kernel
theorem dX9_kill_19 : decode cX9_kill 19 = .ok (.ifCond .ne 6, 3) := by decide +kernel
theorem dX9_kill_22 : decode cX9_kill 22 = .ok (.bipush (-2), 2) := by decide +kernel
theorem dX9_kill_24 : decode cX9_kill 24 = .ok (.ireturn, 1) := by decide +kernel
theorem dX9_kill_25 : decode cX9_kill 25 = .ok (.aload_n 0, 1) := by decide +kernel
theorem dX9_kill_26 : decode cX9_kill 26 = .ok (.getfield 13, 3) := by decide +kernel
theorem dX9_kill_29 : decode cX9_kill 29 = .ok (.iload_n 1, 1) := by decide +kernel
theorem dX9_kill_30 : decode cX9_kill 30 = .ok (.iaload, 1) := by decide +kernel
theorem dX9_kill_31 : decode cX9_kill 31 = .ok (.istore_n 3, 1) := by decide +kernel
theorem dX9_kill_32 : decode cX9_kill 32 = .ok (.iconst 0, 1) := by decide +kernel
theorem dX9_kill_33 : decode cX9_kill 33 = .ok (.istore 4, 2) := by decide +kernel
theorem dX9_kill_35 : decode cX9_kill 35 = .ok (.iload 4, 2) := by decide +kernel
theorem dX9_kill_37 : decode cX9_kill 37 = .ok (.bipush 7, 2) := by decide +kernel
theorem dX9_kill_39 : decode cX9_kill 39 = .ok (.if_icmp .ge 55, 3) := by decide +kernel
theorem dX9_kill_42 : decode cX9_kill 42 = .ok (.aload_n 0, 1) := by decide +kernel
theorem dX9_kill_43 : decode cX9_kill 43 = .ok (.getfield 19, 3) := by decide +kernel
theorem dX9_kill_46 : decode cX9_kill 46 = .ok (.bipush 7, 2) := by decide +kernel
theorem dX9_kill_48 : decode cX9_kill 48 = .ok (.iload_n 1, 1) := by decide +kernel
theorem dX9_kill_49 : decode cX9_kill 49 = .ok (.imul, 1) := by decide +kernel
theorem dX9_kill_50 : decode cX9_kill 50 = .ok (.iload 4, 2) := by decide +kernel
theorem dX9_kill_52 : decode cX9_kill 52 = .ok (.iadd, 1) := by decide +kernel
theorem dX9_kill_53 : decode cX9_kill 53 = .ok (.iload_n 3, 1) := by decide +kernel
theorem dX9_kill_54 : decode cX9_kill 54 = .ok (.iload 4, 2) := by decide +kernel
theorem dX9_kill_56 : decode cX9_kill 56 = .ok (.invokestatic 173, 3) := by decide +kernel
theorem dX9_kill_59 : decode cX9_kill 59 = .ok (.ifCond .eq 16, 3) := by decide +kernel
theorem dX9_kill_62 : decode cX9_kill 62 = .ok (.iload_n 2, 1) := by decide +kernel
theorem dX9_kill_63 : decode cX9_kill 63 = .ok (.iload 4, 2) := by decide +kernel
theorem dX9_kill_65 : decode cX9_kill 65 = .ok (.invokestatic 173, 3) := by decide +kernel
theorem dX9_kill_68 : decode cX9_kill 68 = .ok (.ifCond .ne 7, 3) := by decide +kernel
theorem dX9_kill_71 : decode cX9_kill 71 = .ok (.iconst 0, 1) := by decide +kernel
theorem dX9_kill_72 : decode cX9_kill 72 = .ok (.goto 15, 3) := by decide +kernel
theorem dX9_kill_75 : decode cX9_kill 75 = .ok (.aload_n 0, 1) := by decide +kernel
theorem dX9_kill_76 : decode cX9_kill 76 = .ok (.getfield 19, 3) := by decide +kernel
theorem dX9_kill_79 : decode cX9_kill 79 = .ok (.bipush 7, 2) := by decide +kernel
theorem dX9_kill_81 : decode cX9_kill 81 = .ok (.iload_n 1, 1) := by decide +kernel
theorem dX9_kill_82 : decode cX9_kill 82 = .ok (.imul, 1) := by decide +kernel
theorem dX9_kill_83 : decode cX9_kill 83 = .ok (.iload 4, 2) := by decide +kernel
theorem dX9_kill_85 : decode cX9_kill 85 = .ok (.iadd, 1) := by decide +kernel
theorem dX9_kill_86 : decode cX9_kill 86 = .ok (.iaload, 1) := by decide +kernel
theorem dX9_kill_87 : decode cX9_kill 87 = .ok (.iastore, 1) := by decide +kernel
theorem dX9_kill_88 : decode cX9_kill 88 = .ok (.iinc 4 1, 3) := by decide +kernel
theorem dX9_kill_91 : decode cX9_kill 91 = .ok (.goto (-56), 3) := by decide +kernel
theorem dX9_kill_94 : decode cX9_kill 94 = .ok (.aload_n 0, 1) := by decide +kernel
theorem dX9_kill_95 : decode cX9_kill 95 = .ok (.getfield 13, 3) := by decide +kernel
theorem dX9_kill_98 : decode cX9_kill 98 = .ok (.iload_n 1, 1) := by decide +kernel
theorem dX9_kill_99 : decode cX9_kill 99 = .ok (.iload_n 2, 1) := by decide +kernel
theorem dX9_kill_100 : decode cX9_kill 100 = .ok (.iastore, 1) := by decide +kernel
theorem dX9_kill_101 : decode cX9_kill 101 = .ok (.iload_n 3, 1) := by decide +kernel
theorem dX9_kill_102 : decode cX9_kill 102 = .ok (.ireturn, 1) := by decide +kernel
theorem dX9_jam_0 : decode cX9_jam 0 = .ok (.aload_n 0, 1) := by decide +kernel
theorem dX9_jam_1 : decode cX9_jam 1 = .ok (.iload_n 1, 1) := by decide +kernel
theorem dX9_jam_2 : decode cX9_jam 2 = .ok (.invokevirtual 160, 3) := by decide +kernel
theorem dX9_jam_5 : decode cX9_jam 5 = .ok (.ifCond .eq 5, 3) := by decide +kernel
theorem dX9_jam_8 : decode cX9_jam 8 = .ok (.iconst (-1), 1) := by decide +kernel
theorem dX9_jam_9 : decode cX9_jam 9 = .ok (.ireturn, 1) := by decide +kernel
theorem dX9_jam_10 : decode cX9_jam 10 = .ok (.iload_n 2, 1) := by decide +kernel
theorem dX9_jam_11 : decode cX9_jam 11 = .ok (.i2l, 1) := by decide +kernel
theorem dX9_jam_12 : decode cX9_jam 12 = .ok (.lconst 0, 1) := by decide +kernel
theorem dX9_jam_13 : decode cX9_jam 13 = .ok (.ldc2_w 171, 3) := by decide +kernel
theorem dX9_jam_16 : decode cX9_jam 16 = .ok (.invokestatic 80, 3) := by decide +kernel
theorem dX9_jam_19 : decode cX9_jam 19 = .ok (.ifCond .ne 6, 3) := by decide +kernel
theorem dX9_jam_22 : decode cX9_jam 22 = .ok (.bipush (-2), 2) := by decide +kernel
theorem dX9_jam_24 : decode cX9_jam 24 = .ok (.ireturn, 1) := by decide +kernel
theorem dX9_jam_25 : decode cX9_jam 25 = .ok (.aload_n 0, 1) := by decide +kernel
theorem dX9_jam_26 : decode cX9_jam 26 = .ok (.getfield 16, 3) := by decide +kernel
theorem dX9_jam_29 : decode cX9_jam 29 = .ok (.iload_n 1, 1) := by decide +kernel
theorem dX9_jam_30 : decode cX9_jam 30 = .ok (.iaload, 1) := by decide +kernel
theorem dX9_jam_31 : decode cX9_jam 31 = .ok (.istore_n 3, 1) := by decide +kernel
theorem dX9_jam_32 : decode cX9_jam 32 = .ok (.aload_n 0, 1) := by decide +kernel
theorem dX9_jam_33 : decode cX9_jam 33 = .ok (.getfield 16, 3) := by decide +kernel
theorem dX9_jam_36 : decode cX9_jam 36 = .ok (.iload_n 1, 1) := by decide +kernel
theorem dX9_jam_37 : decode cX9_jam 37 = .ok (.iload_n 2, 1) := by decide +kernel
theorem dX9_jam_38 : decode cX9_jam 38 = .ok (.iastore, 1) := by decide +kernel
theorem dX9_jam_39 : decode cX9_jam 39 = .ok (.iload_n 3, 1) := by decide +kernel
theorem dX9_jam_40 : decode cX9_jam 40 = .ok (.ireturn, 1) := by decide +kernel
theorem dX9_burns_0 : decode cX9_burns 0 = .ok (.aload_n 0, 1) := by decide +kernel
theorem dX9_burns_1 : decode cX9_burns 1 = .ok (.iload_n 1, 1) := by decide +kernel
theorem dX9_burns_2 : decode cX9_burns 2 = .ok (.invokevirtual 160, 3) := by decide +kernel
theorem dX9_burns_5 : decode cX9_burns 5 = .ok (.ifCond .eq 5, 3) := by decide +kernel
theorem dX9_burns_8 : decode cX9_burns 8 = .ok (.iconst (-1), 1) := by decide +kernel
theorem dX9_burns_9 : decode cX9_burns 9 = .ok (.ireturn, 1) := by decide +kernel
theorem dX9_burns_10 : decode cX9_burns 10 = .ok (.iload_n 2, 1) := by decide +kernel
theorem dX9_burns_11 : decode cX9_burns 11 = .ok (.i2l, 1) := by decide +kernel
theorem dX9_burns_12 : decode cX9_burns 12 = .ok (.lconst 0, 1) := by decide +kernel
theorem dX9_burns_13 : decode cX9_burns 13 = .ok (.ldc2_w 176, 3) := by decide +kernel
theorem dX9_burns_16 : decode cX9_burns 16 = .ok (.invokestatic 80, 3) := by decide +kernel
theorem dX9_burns_19 : decode cX9_burns 19 = .ok (.ifCond .eq 12, 3) := by decide +kernel
theorem dX9_burns_22 : decode cX9_burns 22 = .ok (.aload_n 0, 1) := by decide +kernel
theorem dX9_burns_23 : decode cX9_burns 23 = .ok (.iload_n 1, 1) := by decide +kernel
theorem dX9_burns_24 : decode cX9_burns 24 = .ok (.iload_n 2, 1) := by decide +kernel
theorem dX9_burns_25 : decode cX9_burns 25 = .ok (.invokevirtual 157, 3) := by decide +kernel
theorem dX9_burns_28 : decode cX9_burns 28 = .ok (.goto 5, 3) := by decide +kernel
theorem dX9_burns_31 : decode cX9_burns 31 = .ok (.bipush (-2), 2) := by decide +kernel
end
section
theorem dX9_burns_33 : decode cX9_burns 33 = .ok (.ireturn, 1) := by decide +kernel
theorem dX9_digitsOf_0 : decode cX9_digitsOf 0 = .ok (.iconst 0, 1) := by decide +kernel
theorem dX9_digitsOf_1 : decode cX9_digitsOf 1 = .ok (.istore_n 3, 1) := by decide +kernel
theorem dX9_digitsOf_2 : decode cX9_digitsOf 2 = .ok (.iconst 0, 1) := by decide +kernel
theorem dX9_digitsOf_3 : decode cX9_digitsOf 3 = .ok (.istore 4, 2) := by decide +kernel
theorem dX9_digitsOf_5 : decode cX9_digitsOf 5 = .ok (.iload 4, 2) := by decide +kernel
theorem dX9_digitsOf_7 : decode cX9_digitsOf 7 = .ok (.bipush 10, 2) := by decide +kernel
theorem dX9_digitsOf_9 : decode cX9_digitsOf 9 = .ok (.if_icmp .ge 31, 3) := by decide +kernel
theorem dX9_digitsOf_12 : decode cX9_digitsOf 12 = .ok (.iload_n 3, 1) := by decide +kernel
theorem dX9_digitsOf_13 : decode cX9_digitsOf 13 = .ok (.aload_n 0, 1) := by decide +kernel
theorem dX9_digitsOf_14 : decode cX9_digitsOf 14 = .ok (.iload_n 1, 1) := by decide +kernel
theorem dX9_digitsOf_15 : decode cX9_digitsOf 15 = .ok (.iload 4, 2) := by decide +kernel
theorem dX9_digitsOf_17 : decode cX9_digitsOf 17 = .ok (.invokevirtual 157, 3) := by decide +kernel
theorem dX9_digitsOf_20 : decode cX9_digitsOf 20 = .ok (.iload_n 2, 1) := by decide +kernel
theorem dX9_digitsOf_21 : decode cX9_digitsOf 21 = .ok (.if_icmp .ne 10, 3) := by decide +kernel
theorem dX9_digitsOf_24 : decode cX9_digitsOf 24 = .ok (.iconst 1, 1) := by decide +kernel
theorem dX9_digitsOf_25 : decode cX9_digitsOf 25 = .ok (.iload 4, 2) := by decide +kernel
theorem dX9_digitsOf_27 : decode cX9_digitsOf 27 = .ok (.ishl, 1) := by decide +kernel
theorem dX9_digitsOf_28 : decode cX9_digitsOf 28 = .ok (.goto 4, 3) := by decide +kernel
theorem dX9_digitsOf_31 : decode cX9_digitsOf 31 = .ok (.iconst 0, 1) := by decide +kernel
theorem dX9_digitsOf_32 : decode cX9_digitsOf 32 = .ok (.ior, 1) := by decide +kernel
theorem dX9_digitsOf_33 : decode cX9_digitsOf 33 = .ok (.istore_n 3, 1) := by decide +kernel
theorem dX9_digitsOf_34 : decode cX9_digitsOf 34 = .ok (.iinc 4 1, 3) := by decide +kernel
theorem dX9_digitsOf_37 : decode cX9_digitsOf 37 = .ok (.goto (-32), 3) := by decide +kernel
theorem dX9_digitsOf_40 : decode cX9_digitsOf 40 = .ok (.iload_n 3, 1) := by decide +kernel
theorem dX9_digitsOf_41 : decode cX9_digitsOf 41 = .ok (.ireturn, 1) := by decide +kernel
theorem dX9_digits_0 : decode cX9_digits 0 = .ok (.aload_n 0, 1) := by decide +kernel
theorem dX9_digits_1 : decode cX9_digits 1 = .ok (.iload_n 1, 1) := by decide +kernel
theorem dX9_digits_2 : decode cX9_digits 2 = .ok (.invokevirtual 160, 3) := by decide +kernel
theorem dX9_digits_5 : decode cX9_digits 5 = .ok (.ifCond .eq 5, 3) := by decide +kernel
theorem dX9_digits_8 : decode cX9_digits 8 = .ok (.iconst (-1), 1) := by decide +kernel
theorem dX9_digits_9 : decode cX9_digits 9 = .ok (.ireturn, 1) := by decide +kernel
theorem dX9_digits_10 : decode cX9_digits 10 = .ok (.iload_n 2, 1) := by decide +kernel
theorem dX9_digits_11 : decode cX9_digits 11 = .ok (.i2l, 1) := by decide +kernel
theorem dX9_digits_12 : decode cX9_digits 12 = .ok (.lconst 0, 1) := by decide +kernel
theorem dX9_digits_13 : decode cX9_digits 13 = .ok (.ldc2_w 171, 3) := by decide +kernel
theorem dX9_digits_16 : decode cX9_digits 16 = .ok (.invokestatic 80, 3) := by decide +kernel
theorem dX9_digits_19 : decode cX9_digits 19 = .ok (.ifCond .eq 12, 3) := by decide +kernel
theorem dX9_digits_22 : decode cX9_digits 22 = .ok (.aload_n 0, 1) := by decide +kernel
theorem dX9_digits_23 : decode cX9_digits 23 = .ok (.iload_n 1, 1) := by decide +kernel
theorem dX9_digits_24 : decode cX9_digits 24 = .ok (.iload_n 2, 1) := by decide +kernel
theorem dX9_digits_25 : decode cX9_digits 25 = .ok (.invokevirtual 178, 3) := by decide +kernel
theorem dX9_digits_28 : decode cX9_digits 28 = .ok (.goto 5, 3) := by decide +kernel
theorem dX9_digits_31 : decode cX9_digits 31 = .ok (.bipush (-2), 2) := by decide +kernel
theorem dX9_digits_33 : decode cX9_digits 33 = .ok (.ireturn, 1) := by decide +kernel
theorem dX9_noNumber_0 : decode cX9_noNumber 0 = .ok (.iload_n 1, 1) := by decide +kernel
theorem dX9_noNumber_1 : decode cX9_noNumber 1 = .ok (.i2l, 1) := by decide +kernel
theorem dX9_noNumber_2 : decode cX9_noNumber 2 = .ok (.lconst 0, 1) := by decide +kernel
theorem dX9_noNumber_3 : decode cX9_noNumber 3 = .ok (.aload_n 0, 1) := by decide +kernel
theorem dX9_noNumber_4 : decode cX9_noNumber 4 = .ok (.invokevirtual 181, 3) := by decide +kernel
theorem dX9_noNumber_7 : decode cX9_noNumber 7 = .ok (.i2l, 1) := by decide +kernel
theorem dX9_noNumber_8 : decode cX9_noNumber 8 = .ok (.invokestatic 80, 3) := by decide +kernel
theorem dX9_noNumber_11 : decode cX9_noNumber 11 = .ok (.ifCond .ne 7, 3) := by decide +kernel
theorem dX9_noNumber_14 : decode cX9_noNumber 14 = .ok (.iconst 1, 1) := by decide +kernel
theorem dX9_noNumber_15 : decode cX9_noNumber 15 = .ok (.goto 4, 3) := by decide +kernel
theorem dX9_noNumber_18 : decode cX9_noNumber 18 = .ok (.iconst 0, 1) := by decide +kernel
theorem dX9_noNumber_19 : decode cX9_noNumber 19 = .ok (.ireturn, 1) := by decide +kernel
theorem dX9_bars_0 : decode cX9_bars 0 = .ok (.aload_n 0, 1) := by decide +kernel
theorem dX9_bars_1 : decode cX9_bars 1 = .ok (.getfield 77, 3) := by decide +kernel
theorem dX9_bars_4 : decode cX9_bars 4 = .ok (.ifCond .ne 6, 3) := by decide +kernel
theorem dX9_bars_7 : decode cX9_bars 7 = .ok (.bipush (-3), 2) := by decide +kernel
theorem dX9_bars_9 : decode cX9_bars 9 = .ok (.ireturn, 1) := by decide +kernel
theorem dX9_bars_10 : decode cX9_bars 10 = .ok (.aload_n 0, 1) := by decide +kernel
theorem dX9_bars_11 : decode cX9_bars 11 = .ok (.iload_n 1, 1) := by decide +kernel
theorem dX9_bars_12 : decode cX9_bars 12 = .ok (.invokevirtual 185, 3) := by decide +kernel
theorem dX9_bars_15 : decode cX9_bars 15 = .ok (.ifCond .eq 6, 3) := by decide +kernel
theorem dX9_bars_18 : decode cX9_bars 18 = .ok (.bipush (-2), 2) := by decide +kernel
theorem dX9_bars_20 : decode cX9_bars 20 = .ok (.ireturn, 1) := by decide +kernel
theorem dX9_bars_21 : decode cX9_bars 21 = .ok (.iconst 0, 1) := by decide +kernel
theorem dX9_bars_22 : decode cX9_bars 22 = .ok (.istore_n 2, 1) := by decide +kernel
theorem dX9_bars_23 : decode cX9_bars 23 = .ok (.iconst 0, 1) := by decide +kernel
theorem dX9_bars_24 : decode cX9_bars 24 = .ok (.istore_n 3, 1) := by decide +kernel
theorem dX9_bars_25 : decode cX9_bars 25 = .ok (.iload_n 3, 1) := by decide +kernel
theorem dX9_bars_26 : decode cX9_bars 26 = .ok (.aload_n 0, 1) := by decide +kernel
theorem dX9_bars_27 : decode cX9_bars 27 = .ok (.getfield 77, 3) := by decide +kernel
theorem dX9_bars_30 : decode cX9_bars 30 = .ok (.if_icmp .ge 26, 3) := by decide +kernel
theorem dX9_bars_33 : decode cX9_bars 33 = .ok (.iload_n 2, 1) := by decide +kernel
theorem dX9_bars_34 : decode cX9_bars 34 = .ok (.aload_n 0, 1) := by decide +kernel
theorem dX9_bars_35 : decode cX9_bars 35 = .ok (.iload_n 3, 1) := by decide +kernel
theorem dX9_bars_36 : decode cX9_bars 36 = .ok (.aload_n 0, 1) := by decide +kernel
theorem dX9_bars_37 : decode cX9_bars 37 = .ok (.iload_n 3, 1) := by decide +kernel
theorem dX9_bars_38 : decode cX9_bars 38 = .ok (.iload_n 1, 1) := by decide +kernel
theorem dX9_bars_39 : decode cX9_bars 39 = .ok (.invokevirtual 166, 3) := by decide +kernel
theorem dX9_bars_42 : decode cX9_bars 42 = .ok (.invokevirtual 157, 3) := by decide +kernel
theorem dX9_bars_45 : decode cX9_bars 45 = .ok (.invokestatic 188, 3) := by decide +kernel
theorem dX9_bars_48 : decode cX9_bars 48 = .ok (.iadd, 1) := by decide +kernel
theorem dX9_bars_49 : decode cX9_bars 49 = .ok (.istore_n 2, 1) := by decide +kernel
theorem dX9_bars_50 : decode cX9_bars 50 = .ok (.iinc 3 1, 3) := by decide +kernel
theorem dX9_bars_53 : decode cX9_bars 53 = .ok (.goto (-28), 3) := by decide +kernel
theorem dX9_bars_56 : decode cX9_bars 56 = .ok (.iload_n 2, 1) := by decide +kernel
theorem dX9_bars_57 : decode cX9_bars 57 = .ok (.ireturn, 1) := by decide +kernel
theorem dX9_flipsOf_0 : decode cX9_flipsOf 0 = .ok (.iconst 0, 1) := by decide +kernel
theorem dX9_flipsOf_1 : decode cX9_flipsOf 1 = .ok (.istore_n 3, 1) := by decide +kernel
theorem dX9_flipsOf_2 : decode cX9_flipsOf 2 = .ok (.iconst 0, 1) := by decide +kernel
theorem dX9_flipsOf_3 : decode cX9_flipsOf 3 = .ok (.istore 4, 2) := by decide +kernel
theorem dX9_flipsOf_5 : decode cX9_flipsOf 5 = .ok (.iload 4, 2) := by decide +kernel
theorem dX9_flipsOf_7 : decode cX9_flipsOf 7 = .ok (.aload_n 0, 1) := by decide +kernel
theorem dX9_flipsOf_8 : decode cX9_flipsOf 8 = .ok (.getfield 77, 3) := by decide +kernel
theorem dX9_flipsOf_11 : decode cX9_flipsOf 11 = .ok (.if_icmp .ge 61, 3) := by decide +kernel
theorem dX9_flipsOf_14 : decode cX9_flipsOf 14 = .ok (.aload_n 0, 1) := by decide +kernel
theorem dX9_flipsOf_15 : decode cX9_flipsOf 15 = .ok (.iload 4, 2) := by decide +kernel
theorem dX9_flipsOf_17 : decode cX9_flipsOf 17 = .ok (.iload_n 1, 1) := by decide +kernel
theorem dX9_flipsOf_18 : decode cX9_flipsOf 18 = .ok (.invokevirtual 166, 3) := by decide +kernel
theorem dX9_flipsOf_21 : decode cX9_flipsOf 21 = .ok (.istore 5, 2) := by decide +kernel
theorem dX9_flipsOf_23 : decode cX9_flipsOf 23 = .ok (.aload_n 0, 1) := by decide +kernel
theorem dX9_flipsOf_24 : decode cX9_flipsOf 24 = .ok (.iload 4, 2) := by decide +kernel
theorem dX9_flipsOf_26 : decode cX9_flipsOf 26 = .ok (.iload_n 2, 1) := by decide +kernel
theorem dX9_flipsOf_27 : decode cX9_flipsOf 27 = .ok (.invokevirtual 166, 3) := by decide +kernel
theorem dX9_flipsOf_30 : decode cX9_flipsOf 30 = .ok (.istore 6, 2) := by decide +kernel
theorem dX9_flipsOf_32 : decode cX9_flipsOf 32 = .ok (.iload_n 3, 1) := by decide +kernel
theorem dX9_flipsOf_33 : decode cX9_flipsOf 33 = .ok (.iload 5, 2) := by decide +kernel
theorem dX9_flipsOf_35 : decode cX9_flipsOf 35 = .ok (.iload 6, 2) := by decide +kernel
theorem dX9_flipsOf_37 : decode cX9_flipsOf 37 = .ok (.if_icmp .ne 7, 3) := by decide +kernel
theorem dX9_flipsOf_40 : decode cX9_flipsOf 40 = .ok (.iconst 0, 1) := by decide +kernel
theorem dX9_flipsOf_41 : decode cX9_flipsOf 41 = .ok (.goto 23, 3) := by decide +kernel
theorem dX9_flipsOf_44 : decode cX9_flipsOf 44 = .ok (.aload_n 0, 1) := by decide +kernel
theorem dX9_flipsOf_45 : decode cX9_flipsOf 45 = .ok (.iload 4, 2) := by decide +kernel
theorem dX9_flipsOf_47 : decode cX9_flipsOf 47 = .ok (.iload 5, 2) := by decide +kernel
theorem dX9_flipsOf_49 : decode cX9_flipsOf 49 = .ok (.invokevirtual 157, 3) := by decide +kernel
theorem dX9_flipsOf_52 : decode cX9_flipsOf 52 = .ok (.aload_n 0, 1) := by decide +kernel
theorem dX9_flipsOf_53 : decode cX9_flipsOf 53 = .ok (.iload 4, 2) := by decide +kernel
theorem dX9_flipsOf_55 : decode cX9_flipsOf 55 = .ok (.iload 6, 2) := by decide +kernel
theorem dX9_flipsOf_57 : decode cX9_flipsOf 57 = .ok (.invokevirtual 157, 3) := by decide +kernel
theorem dX9_flipsOf_60 : decode cX9_flipsOf 60 = .ok (.ixor, 1) := by decide +kernel
theorem dX9_flipsOf_61 : decode cX9_flipsOf 61 = .ok (.invokestatic 188, 3) := by decide +kernel
theorem dX9_flipsOf_64 : decode cX9_flipsOf 64 = .ok (.iadd, 1) := by decide +kernel
theorem dX9_flipsOf_65 : decode cX9_flipsOf 65 = .ok (.istore_n 3, 1) := by decide +kernel
theorem dX9_flipsOf_66 : decode cX9_flipsOf 66 = .ok (.iinc 4 1, 3) := by decide +kernel
theorem dX9_flipsOf_69 : decode cX9_flipsOf 69 = .ok (.goto (-64), 3) := by decide +kernel
theorem dX9_flipsOf_72 : decode cX9_flipsOf 72 = .ok (.iload_n 3, 1) := by decide +kernel
theorem dX9_flipsOf_73 : decode cX9_flipsOf 73 = .ok (.ireturn, 1) := by decide +kernel
theorem dX9_alike_0 : decode cX9_alike 0 = .ok (.aload_n 0, 1) := by decide +kernel
theorem dX9_alike_1 : decode cX9_alike 1 = .ok (.getfield 77, 3) := by decide +kernel
theorem dX9_alike_4 : decode cX9_alike 4 = .ok (.ifCond .ne 6, 3) := by decide +kernel
theorem dX9_alike_7 : decode cX9_alike 7 = .ok (.bipush (-3), 2) := by decide +kernel
theorem dX9_alike_9 : decode cX9_alike 9 = .ok (.ireturn, 1) := by decide +kernel
theorem dX9_alike_10 : decode cX9_alike 10 = .ok (.aload_n 0, 1) := by decide +kernel
theorem dX9_alike_11 : decode cX9_alike 11 = .ok (.iload_n 1, 1) := by decide +kernel
theorem dX9_alike_12 : decode cX9_alike 12 = .ok (.invokevirtual 185, 3) := by decide +kernel
theorem dX9_alike_15 : decode cX9_alike 15 = .ok (.ifCond .eq 6, 3) := by decide +kernel
theorem dX9_alike_18 : decode cX9_alike 18 = .ok (.bipush (-2), 2) := by decide +kernel
theorem dX9_alike_20 : decode cX9_alike 20 = .ok (.ireturn, 1) := by decide +kernel
theorem dX9_alike_21 : decode cX9_alike 21 = .ok (.iconst 1, 1) := by decide +kernel
theorem dX9_alike_22 : decode cX9_alike 22 = .ok (.istore_n 2, 1) := by decide +kernel
theorem dX9_alike_23 : decode cX9_alike 23 = .ok (.iconst 0, 1) := by decide +kernel
theorem dX9_alike_24 : decode cX9_alike 24 = .ok (.istore_n 3, 1) := by decide +kernel
theorem dX9_alike_25 : decode cX9_alike 25 = .ok (.iload_n 3, 1) := by decide +kernel
theorem dX9_alike_26 : decode cX9_alike 26 = .ok (.aload_n 0, 1) := by decide +kernel
theorem dX9_alike_27 : decode cX9_alike 27 = .ok (.getfield 77, 3) := by decide +kernel
theorem dX9_alike_30 : decode cX9_alike 30 = .ok (.if_icmp .ge 31, 3) := by decide +kernel
theorem dX9_alike_33 : decode cX9_alike 33 = .ok (.iload_n 2, 1) := by decide +kernel
theorem dX9_alike_34 : decode cX9_alike 34 = .ok (.aload_n 0, 1) := by decide +kernel
theorem dX9_alike_35 : decode cX9_alike 35 = .ok (.iload_n 3, 1) := by decide +kernel
theorem dX9_alike_36 : decode cX9_alike 36 = .ok (.aload_n 0, 1) := by decide +kernel
theorem dX9_alike_37 : decode cX9_alike 37 = .ok (.iload_n 3, 1) := by decide +kernel
theorem dX9_alike_38 : decode cX9_alike 38 = .ok (.aload_n 0, 1) := by decide +kernel
theorem dX9_alike_39 : decode cX9_alike 39 = .ok (.iload_n 3, 1) := by decide +kernel
theorem dX9_alike_40 : decode cX9_alike 40 = .ok (.iload_n 1, 1) := by decide +kernel
theorem dX9_alike_41 : decode cX9_alike 41 = .ok (.invokevirtual 166, 3) := by decide +kernel
theorem dX9_alike_44 : decode cX9_alike 44 = .ok (.invokevirtual 157, 3) := by decide +kernel
theorem dX9_alike_47 : decode cX9_alike 47 = .ok (.invokevirtual 178, 3) := by decide +kernel
theorem dX9_alike_50 : decode cX9_alike 50 = .ok (.invokestatic 188, 3) := by decide +kernel
theorem dX9_alike_53 : decode cX9_alike 53 = .ok (.imul, 1) := by decide +kernel
theorem dX9_alike_54 : decode cX9_alike 54 = .ok (.istore_n 2, 1) := by decide +kernel
theorem dX9_alike_55 : decode cX9_alike 55 = .ok (.iinc 3 1, 3) := by decide +kernel
theorem dX9_alike_58 : decode cX9_alike 58 = .ok (.goto (-33), 3) := by decide +kernel
theorem dX9_alike_61 : decode cX9_alike 61 = .ok (.iload_n 2, 1) := by decide +kernel
theorem dX9_alike_62 : decode cX9_alike 62 = .ok (.ireturn, 1) := by decide +kernel
theorem dX9_which_0 : decode cX9_which 0 = .ok (.aload_n 0, 1) := by decide +kernel
theorem dX9_which_1 : decode cX9_which 1 = .ok (.getfield 77, 3) := by decide +kernel
theorem dX9_which_4 : decode cX9_which 4 = .ok (.ifCond .ne 6, 3) := by decide +kernel
theorem dX9_which_7 : decode cX9_which 7 = .ok (.bipush (-3), 2) := by decide +kernel
theorem dX9_which_9 : decode cX9_which 9 = .ok (.ireturn, 1) := by decide +kernel
theorem dX9_which_10 : decode cX9_which 10 = .ok (.aload_n 0, 1) := by decide +kernel
theorem dX9_which_11 : decode cX9_which 11 = .ok (.iload_n 1, 1) := by decide +kernel
theorem dX9_which_12 : decode cX9_which 12 = .ok (.invokevirtual 185, 3) := by decide +kernel
theorem dX9_which_15 : decode cX9_which 15 = .ok (.ifCond .ne 15, 3) := by decide +kernel
theorem dX9_which_18 : decode cX9_which 18 = .ok (.iload_n 2, 1) := by decide +kernel
theorem dX9_which_19 : decode cX9_which 19 = .ok (.i2l, 1) := by decide +kernel
theorem dX9_which_20 : decode cX9_which 20 = .ok (.lconst 0, 1) := by decide +kernel
theorem dX9_which_21 : decode cX9_which 21 = .ok (.ldc2_w 191, 3) := by decide +kernel
theorem dX9_which_24 : decode cX9_which 24 = .ok (.invokestatic 80, 3) := by decide +kernel
theorem dX9_which_27 : decode cX9_which 27 = .ok (.ifCond .ne 6, 3) := by decide +kernel
theorem dX9_which_30 : decode cX9_which 30 = .ok (.bipush (-2), 2) := by decide +kernel
theorem dX9_which_32 : decode cX9_which 32 = .ok (.ireturn, 1) := by decide +kernel
theorem dX9_which_33 : decode cX9_which 33 = .ok (.iload_n 2, 1) := by decide +kernel
theorem dX9_which_34 : decode cX9_which 34 = .ok (.istore_n 3, 1) := by decide +kernel
theorem dX9_which_35 : decode cX9_which 35 = .ok (.iconst 0, 1) := by decide +kernel
theorem dX9_which_36 : decode cX9_which 36 = .ok (.istore 4, 2) := by decide +kernel
theorem dX9_which_38 : decode cX9_which 38 = .ok (.iload 4, 2) := by decide +kernel
theorem dX9_which_40 : decode cX9_which 40 = .ok (.aload_n 0, 1) := by decide +kernel
theorem dX9_which_41 : decode cX9_which 41 = .ok (.invokevirtual 181, 3) := by decide +kernel
theorem dX9_which_44 : decode cX9_which 44 = .ok (.if_icmp .gt 29, 3) := by decide +kernel
theorem dX9_which_47 : decode cX9_which 47 = .ok (.aload_n 0, 1) := by decide +kernel
theorem dX9_which_48 : decode cX9_which 48 = .ok (.iload 4, 2) := by decide +kernel
theorem dX9_which_50 : decode cX9_which 50 = .ok (.iload_n 1, 1) := by decide +kernel
theorem dX9_which_51 : decode cX9_which 51 = .ok (.invokevirtual 193, 3) := by decide +kernel
theorem dX9_which_54 : decode cX9_which 54 = .ok (.ifCond .ne 13, 3) := by decide +kernel
theorem dX9_which_57 : decode cX9_which 57 = .ok (.iload_n 3, 1) := by decide +kernel
theorem dX9_which_58 : decode cX9_which 58 = .ok (.ifCond .ne 6, 3) := by decide +kernel
theorem dX9_which_61 : decode cX9_which 61 = .ok (.iload 4, 2) := by decide +kernel
theorem dX9_which_63 : decode cX9_which 63 = .ok (.ireturn, 1) := by decide +kernel
theorem dX9_which_64 : decode cX9_which 64 = .ok (.iinc 3 (-1), 3) := by decide +kernel
theorem dX9_which_67 : decode cX9_which 67 = .ok (.iinc 4 1, 3) := by decide +kernel
theorem dX9_which_70 : decode cX9_which 70 = .ok (.goto (-32), 3) := by decide +kernel
theorem dX9_which_73 : decode cX9_which 73 = .ok (.bipush (-9), 2) := by decide +kernel
theorem dX9_which_75 : decode cX9_which 75 = .ok (.ireturn, 1) := by decide +kernel
theorem dX9_flips_0 : decode cX9_flips 0 = .ok (.aload_n 0, 1) := by decide +kernel
theorem dX9_flips_1 : decode cX9_flips 1 = .ok (.getfield 77, 3) := by decide +kernel
theorem dX9_flips_4 : decode cX9_flips 4 = .ok (.ifCond .ne 6, 3) := by decide +kernel
theorem dX9_flips_7 : decode cX9_flips 7 = .ok (.bipush (-3), 2) := by decide +kernel
theorem dX9_flips_9 : decode cX9_flips 9 = .ok (.ireturn, 1) := by decide +kernel
theorem dX9_flips_10 : decode cX9_flips 10 = .ok (.aload_n 0, 1) := by decide +kernel
theorem dX9_flips_11 : decode cX9_flips 11 = .ok (.iload_n 1, 1) := by decide +kernel
theorem dX9_flips_12 : decode cX9_flips 12 = .ok (.invokevirtual 185, 3) := by decide +kernel
theorem dX9_flips_15 : decode cX9_flips 15 = .ok (.ifCond .ne 11, 3) := by decide +kernel
theorem dX9_flips_18 : decode cX9_flips 18 = .ok (.aload_n 0, 1) := by decide +kernel
theorem dX9_flips_19 : decode cX9_flips 19 = .ok (.iload_n 2, 1) := by decide +kernel
theorem dX9_flips_20 : decode cX9_flips 20 = .ok (.invokevirtual 185, 3) := by decide +kernel
theorem dX9_flips_23 : decode cX9_flips 23 = .ok (.ifCond .eq 8, 3) := by decide +kernel
theorem dX9_flips_26 : decode cX9_flips 26 = .ok (.bipush (-2), 2) := by decide +kernel
theorem dX9_flips_28 : decode cX9_flips 28 = .ok (.goto 9, 3) := by decide +kernel
theorem dX9_flips_31 : decode cX9_flips 31 = .ok (.aload_n 0, 1) := by decide +kernel
theorem dX9_flips_32 : decode cX9_flips 32 = .ok (.iload_n 1, 1) := by decide +kernel
theorem dX9_flips_33 : decode cX9_flips 33 = .ok (.iload_n 2, 1) := by decide +kernel
theorem dX9_flips_34 : decode cX9_flips 34 = .ok (.invokevirtual 193, 3) := by decide +kernel
theorem dX9_flips_37 : decode cX9_flips 37 = .ok (.ireturn, 1) := by decide +kernel
theorem dX9_counting_0 : decode cX9_counting 0 = .ok (.aload_n 0, 1) := by decide +kernel
theorem dX9_counting_1 : decode cX9_counting 1 = .ok (.getfield 77, 3) := by decide +kernel
theorem dX9_counting_4 : decode cX9_counting 4 = .ok (.ifCond .ne 6, 3) := by decide +kernel
theorem dX9_counting_7 : decode cX9_counting 7 = .ok (.bipush (-3), 2) := by decide +kernel
theorem dX9_counting_9 : decode cX9_counting 9 = .ok (.ireturn, 1) := by decide +kernel
theorem dX9_counting_10 : decode cX9_counting 10 = .ok (.aload_n 0, 1) := by decide +kernel
theorem dX9_counting_11 : decode cX9_counting 11 = .ok (.iload_n 1, 1) := by decide +kernel
theorem dX9_counting_12 : decode cX9_counting 12 = .ok (.invokevirtual 185, 3) := by decide +kernel
theorem dX9_counting_15 : decode cX9_counting 15 = .ok (.ifCond .ne 28, 3) := by decide +kernel
theorem dX9_counting_18 : decode cX9_counting 18 = .ok (.aload_n 0, 1) := by decide +kernel
theorem dX9_counting_19 : decode cX9_counting 19 = .ok (.iload_n 2, 1) := by decide +kernel
theorem dX9_counting_20 : decode cX9_counting 20 = .ok (.invokevirtual 185, 3) := by decide +kernel
theorem dX9_counting_23 : decode cX9_counting 23 = .ok (.ifCond .ne 20, 3) := by decide +kernel
theorem dX9_counting_26 : decode cX9_counting 26 = .ok (.iload_n 2, 1) := by decide +kernel
theorem dX9_counting_27 : decode cX9_counting 27 = .ok (.iload_n 1, 1) := by decide +kernel
theorem dX9_counting_28 : decode cX9_counting 28 = .ok (.if_icmp .lt 15, 3) := by decide +kernel
theorem dX9_counting_31 : decode cX9_counting 31 = .ok (.iload_n 3, 1) := by decide +kernel
theorem dX9_counting_32 : decode cX9_counting 32 = .ok (.i2l, 1) := by decide +kernel
theorem dX9_counting_33 : decode cX9_counting 33 = .ok (.lconst 0, 1) := by decide +kernel
theorem dX9_counting_34 : decode cX9_counting 34 = .ok (.ldc2_w 120, 3) := by decide +kernel
theorem dX9_counting_37 : decode cX9_counting 37 = .ok (.invokestatic 80, 3) := by decide +kernel
theorem dX9_counting_40 : decode cX9_counting 40 = .ok (.ifCond .ne 6, 3) := by decide +kernel
theorem dX9_counting_43 : decode cX9_counting 43 = .ok (.bipush (-2), 2) := by decide +kernel
theorem dX9_counting_45 : decode cX9_counting 45 = .ok (.ireturn, 1) := by decide +kernel
theorem dX9_counting_46 : decode cX9_counting 46 = .ok (.iconst 0, 1) := by decide +kernel
theorem dX9_counting_47 : decode cX9_counting 47 = .ok (.istore 4, 2) := by decide +kernel
theorem dX9_counting_49 : decode cX9_counting 49 = .ok (.iconst 0, 1) := by decide +kernel
theorem dX9_counting_50 : decode cX9_counting 50 = .ok (.istore 5, 2) := by decide +kernel
theorem dX9_counting_52 : decode cX9_counting 52 = .ok (.iconst 0, 1) := by decide +kernel
theorem dX9_counting_53 : decode cX9_counting 53 = .ok (.istore 6, 2) := by decide +kernel
theorem dX9_counting_55 : decode cX9_counting 55 = .ok (.iload_n 1, 1) := by decide +kernel
theorem dX9_counting_56 : decode cX9_counting 56 = .ok (.istore 7, 2) := by decide +kernel
theorem dX9_counting_58 : decode cX9_counting 58 = .ok (.iload 7, 2) := by decide +kernel
theorem dX9_counting_60 : decode cX9_counting 60 = .ok (.iload_n 2, 1) := by decide +kernel
theorem dX9_counting_61 : decode cX9_counting 61 = .ok (.if_icmp .ge 59, 3) := by decide +kernel
theorem dX9_counting_64 : decode cX9_counting 64 = .ok (.aload_n 0, 1) := by decide +kernel
theorem dX9_counting_65 : decode cX9_counting 65 = .ok (.iload 7, 2) := by decide +kernel
theorem dX9_counting_67 : decode cX9_counting 67 = .ok (.iload 7, 2) := by decide +kernel
theorem dX9_counting_69 : decode cX9_counting 69 = .ok (.iconst 1, 1) := by decide +kernel
theorem dX9_counting_70 : decode cX9_counting 70 = .ok (.iadd, 1) := by decide +kernel
theorem dX9_counting_71 : decode cX9_counting 71 = .ok (.invokevirtual 193, 3) := by decide +kernel
theorem dX9_counting_74 : decode cX9_counting 74 = .ok (.istore 8, 2) := by decide +kernel
theorem dX9_counting_76 : decode cX9_counting 76 = .ok (.iload 4, 2) := by decide +kernel
theorem dX9_counting_78 : decode cX9_counting 78 = .ok (.iload 8, 2) := by decide +kernel
theorem dX9_counting_80 : decode cX9_counting 80 = .ok (.ifCond .ne 7, 3) := by decide +kernel
theorem dX9_counting_83 : decode cX9_counting 83 = .ok (.iconst 1, 1) := by decide +kernel
theorem dX9_counting_84 : decode cX9_counting 84 = .ok (.goto 4, 3) := by decide +kernel
theorem dX9_counting_87 : decode cX9_counting 87 = .ok (.iconst 0, 1) := by decide +kernel
theorem dX9_counting_88 : decode cX9_counting 88 = .ok (.iadd, 1) := by decide +kernel
theorem dX9_counting_89 : decode cX9_counting 89 = .ok (.istore 4, 2) := by decide +kernel
theorem dX9_counting_91 : decode cX9_counting 91 = .ok (.iload 5, 2) := by decide +kernel
theorem dX9_counting_93 : decode cX9_counting 93 = .ok (.iload 8, 2) := by decide +kernel
theorem dX9_counting_95 : decode cX9_counting 95 = .ok (.iadd, 1) := by decide +kernel
theorem dX9_counting_96 : decode cX9_counting 96 = .ok (.istore 5, 2) := by decide +kernel
theorem dX9_counting_98 : decode cX9_counting 98 = .ok (.iload 8, 2) := by decide +kernel
theorem dX9_counting_100 : decode cX9_counting 100 = .ok (.iload 6, 2) := by decide +kernel
theorem dX9_counting_102 : decode cX9_counting 102 = .ok (.if_icmp .le 8, 3) := by decide +kernel
theorem dX9_counting_105 : decode cX9_counting 105 = .ok (.iload 8, 2) := by decide +kernel
theorem dX9_counting_107 : decode cX9_counting 107 = .ok (.goto 5, 3) := by decide +kernel
theorem dX9_counting_110 : decode cX9_counting 110 = .ok (.iload 6, 2) := by decide +kernel
theorem dX9_counting_112 : decode cX9_counting 112 = .ok (.istore 6, 2) := by decide +kernel
theorem dX9_counting_114 : decode cX9_counting 114 = .ok (.iinc 7 1, 3) := by decide +kernel
theorem dX9_counting_117 : decode cX9_counting 117 = .ok (.goto (-59), 3) := by decide +kernel
theorem dX9_counting_120 : decode cX9_counting 120 = .ok (.iload_n 3, 1) := by decide +kernel
theorem dX9_counting_121 : decode cX9_counting 121 = .ok (.ifCond .ne 8, 3) := by decide +kernel
theorem dX9_counting_124 : decode cX9_counting 124 = .ok (.iload 4, 2) := by decide +kernel
theorem dX9_counting_126 : decode cX9_counting 126 = .ok (.goto 15, 3) := by decide +kernel
theorem dX9_counting_129 : decode cX9_counting 129 = .ok (.iload_n 3, 1) := by decide +kernel
theorem dX9_counting_130 : decode cX9_counting 130 = .ok (.iconst 1, 1) := by decide +kernel
theorem dX9_counting_131 : decode cX9_counting 131 = .ok (.if_icmp .ne 8, 3) := by decide +kernel
theorem dX9_counting_134 : decode cX9_counting 134 = .ok (.iload 5, 2) := by decide +kernel
theorem dX9_counting_136 : decode cX9_counting 136 = .ok (.goto 5, 3) := by decide +kernel
theorem dX9_counting_139 : decode cX9_counting 139 = .ok (.iload 6, 2) := by decide +kernel
theorem dX9_counting_141 : decode cX9_counting 141 = .ok (.ireturn, 1) := by decide +kernel
theorem dX9_near_0 : decode cX9_near 0 = .ok (.aload_n 0, 1) := by decide +kernel
theorem dX9_near_1 : decode cX9_near 1 = .ok (.getfield 77, 3) := by decide +kernel
theorem dX9_near_4 : decode cX9_near 4 = .ok (.ifCond .ne 6, 3) := by decide +kernel
theorem dX9_near_7 : decode cX9_near 7 = .ok (.bipush (-3), 2) := by decide +kernel
theorem dX9_near_9 : decode cX9_near 9 = .ok (.ireturn, 1) := by decide +kernel
theorem dX9_near_10 : decode cX9_near 10 = .ok (.aload_n 0, 1) := by decide +kernel
theorem dX9_near_11 : decode cX9_near 11 = .ok (.iload_n 1, 1) := by decide +kernel
theorem dX9_near_12 : decode cX9_near 12 = .ok (.invokevirtual 185, 3) := by decide +kernel
theorem dX9_near_15 : decode cX9_near 15 = .ok (.ifCond .ne 13, 3) := by decide +kernel
theorem dX9_near_18 : decode cX9_near 18 = .ok (.iload_n 2, 1) := by decide +kernel
theorem dX9_near_19 : decode cX9_near 19 = .ok (.i2l, 1) := by decide +kernel
theorem dX9_near_20 : decode cX9_near 20 = .ok (.lconst 0, 1) := by decide +kernel
theorem dX9_near_21 : decode cX9_near 21 = .ok (.lconst 1, 1) := by decide +kernel
theorem dX9_near_22 : decode cX9_near 22 = .ok (.invokestatic 80, 3) := by decide +kernel
theorem dX9_near_25 : decode cX9_near 25 = .ok (.ifCond .ne 6, 3) := by decide +kernel
theorem dX9_near_28 : decode cX9_near 28 = .ok (.bipush (-2), 2) := by decide +kernel
theorem dX9_near_30 : decode cX9_near 30 = .ok (.ireturn, 1) := by decide +kernel
theorem dX9_near_31 : decode cX9_near 31 = .ok (.bipush (-9), 2) := by decide +kernel
theorem dX9_near_33 : decode cX9_near 33 = .ok (.istore_n 3, 1) := by decide +kernel
theorem dX9_near_34 : decode cX9_near 34 = .ok (.bipush 99, 2) := by decide +kernel
theorem dX9_near_36 : decode cX9_near 36 = .ok (.istore 4, 2) := by decide +kernel
theorem dX9_near_38 : decode cX9_near 38 = .ok (.iconst 0, 1) := by decide +kernel
theorem dX9_near_39 : decode cX9_near 39 = .ok (.istore 5, 2) := by decide +kernel
theorem dX9_near_41 : decode cX9_near 41 = .ok (.iload 5, 2) := by decide +kernel
theorem dX9_near_43 : decode cX9_near 43 = .ok (.aload_n 0, 1) := by decide +kernel
theorem dX9_near_44 : decode cX9_near 44 = .ok (.invokevirtual 181, 3) := by decide +kernel
theorem dX9_near_47 : decode cX9_near 47 = .ok (.if_icmp .gt 59, 3) := by decide +kernel
theorem dX9_near_50 : decode cX9_near 50 = .ok (.iload 5, 2) := by decide +kernel
theorem dX9_near_52 : decode cX9_near 52 = .ok (.iload_n 1, 1) := by decide +kernel
theorem dX9_near_53 : decode cX9_near 53 = .ok (.if_icmp .ne 8, 3) := by decide +kernel
theorem dX9_near_56 : decode cX9_near 56 = .ok (.bipush 99, 2) := by decide +kernel
theorem dX9_near_58 : decode cX9_near 58 = .ok (.goto 10, 3) := by decide +kernel
theorem dX9_near_61 : decode cX9_near 61 = .ok (.aload_n 0, 1) := by decide +kernel
theorem dX9_near_62 : decode cX9_near 62 = .ok (.iload 5, 2) := by decide +kernel
theorem dX9_near_64 : decode cX9_near 64 = .ok (.iload_n 1, 1) := by decide +kernel
theorem dX9_near_65 : decode cX9_near 65 = .ok (.invokevirtual 193, 3) := by decide +kernel
theorem dX9_near_68 : decode cX9_near 68 = .ok (.istore 6, 2) := by decide +kernel
theorem dX9_near_70 : decode cX9_near 70 = .ok (.iload 6, 2) := by decide +kernel
theorem dX9_near_72 : decode cX9_near 72 = .ok (.iload 4, 2) := by decide +kernel
theorem dX9_near_74 : decode cX9_near 74 = .ok (.if_icmp .ge 8, 3) := by decide +kernel
theorem dX9_near_77 : decode cX9_near 77 = .ok (.iload 5, 2) := by decide +kernel
theorem dX9_near_79 : decode cX9_near 79 = .ok (.goto 4, 3) := by decide +kernel
theorem dX9_near_82 : decode cX9_near 82 = .ok (.iload_n 3, 1) := by decide +kernel
theorem dX9_near_83 : decode cX9_near 83 = .ok (.istore_n 3, 1) := by decide +kernel
theorem dX9_near_84 : decode cX9_near 84 = .ok (.iload 6, 2) := by decide +kernel
theorem dX9_near_86 : decode cX9_near 86 = .ok (.iload 4, 2) := by decide +kernel
theorem dX9_near_88 : decode cX9_near 88 = .ok (.if_icmp .ge 8, 3) := by decide +kernel
theorem dX9_near_91 : decode cX9_near 91 = .ok (.iload 6, 2) := by decide +kernel
theorem dX9_near_93 : decode cX9_near 93 = .ok (.goto 5, 3) := by decide +kernel
theorem dX9_near_96 : decode cX9_near 96 = .ok (.iload 4, 2) := by decide +kernel
theorem dX9_near_98 : decode cX9_near 98 = .ok (.istore 4, 2) := by decide +kernel
theorem dX9_near_100 : decode cX9_near 100 = .ok (.iinc 5 1, 3) := by decide +kernel
theorem dX9_near_103 : decode cX9_near 103 = .ok (.goto (-62), 3) := by decide +kernel
theorem dX9_near_106 : decode cX9_near 106 = .ok (.iload_n 2, 1) := by decide +kernel
theorem dX9_near_107 : decode cX9_near 107 = .ok (.ifCond .ne 8, 3) := by decide +kernel
theorem dX9_near_110 : decode cX9_near 110 = .ok (.iload 4, 2) := by decide +kernel
theorem dX9_near_112 : decode cX9_near 112 = .ok (.goto 4, 3) := by decide +kernel
theorem dX9_near_115 : decode cX9_near 115 = .ok (.iload_n 3, 1) := by decide +kernel
theorem dX9_near_116 : decode cX9_near 116 = .ok (.ireturn, 1) := by decide +kernel
theorem dX9_pictures_0 : decode cX9_pictures 0 = .ok (.aload_n 0, 1) := by decide +kernel
theorem dX9_pictures_1 : decode cX9_pictures 1 = .ok (.getfield 77, 3) := by decide +kernel
theorem dX9_pictures_4 : decode cX9_pictures 4 = .ok (.ifCond .ne 6, 3) := by decide +kernel
theorem dX9_pictures_7 : decode cX9_pictures 7 = .ok (.bipush (-3), 2) := by decide +kernel
theorem dX9_pictures_9 : decode cX9_pictures 9 = .ok (.ireturn, 1) := by decide +kernel
theorem dX9_pictures_10 : decode cX9_pictures 10 = .ok (.iconst 1, 1) := by decide +kernel
theorem dX9_pictures_11 : decode cX9_pictures 11 = .ok (.istore_n 1, 1) := by decide +kernel
theorem dX9_pictures_12 : decode cX9_pictures 12 = .ok (.iconst 0, 1) := by decide +kernel
theorem dX9_pictures_13 : decode cX9_pictures 13 = .ok (.istore_n 2, 1) := by decide +kernel
theorem dX9_pictures_14 : decode cX9_pictures 14 = .ok (.iload_n 2, 1) := by decide +kernel
theorem dX9_pictures_15 : decode cX9_pictures 15 = .ok (.aload_n 0, 1) := by decide +kernel
theorem dX9_pictures_16 : decode cX9_pictures 16 = .ok (.getfield 77, 3) := by decide +kernel
theorem dX9_pictures_19 : decode cX9_pictures 19 = .ok (.if_icmp .ge 17, 3) := by decide +kernel
theorem dX9_pictures_22 : decode cX9_pictures 22 = .ok (.iload_n 1, 1) := by decide +kernel
theorem dX9_pictures_23 : decode cX9_pictures 23 = .ok (.aload_n 0, 1) := by decide +kernel
theorem dX9_pictures_24 : decode cX9_pictures 24 = .ok (.iload_n 2, 1) := by decide +kernel
theorem dX9_pictures_25 : decode cX9_pictures 25 = .ok (.invokevirtual 163, 3) := by decide +kernel
theorem dX9_pictures_28 : decode cX9_pictures 28 = .ok (.imul, 1) := by decide +kernel
theorem dX9_pictures_29 : decode cX9_pictures 29 = .ok (.istore_n 1, 1) := by decide +kernel
theorem dX9_pictures_30 : decode cX9_pictures 30 = .ok (.iinc 2 1, 3) := by decide +kernel
theorem dX9_pictures_33 : decode cX9_pictures 33 = .ok (.goto (-19), 3) := by decide +kernel
theorem dX9_pictures_36 : decode cX9_pictures 36 = .ok (.iload_n 1, 1) := by decide +kernel
theorem dX9_pictures_37 : decode cX9_pictures 37 = .ok (.ireturn, 1) := by decide +kernel
theorem dX9_keepAll_0 : decode cX9_keepAll 0 = .ok (.aload_n 0, 1) := by decide +kernel
theorem dX9_keepAll_1 : decode cX9_keepAll 1 = .ok (.aload_n 0, 1) := by decide +kernel
theorem dX9_keepAll_2 : decode cX9_keepAll 2 = .ok (.getfield 132, 3) := by decide +kernel
theorem dX9_keepAll_5 : decode cX9_keepAll 5 = .ok (.putfield 196, 3) := by decide +kernel
theorem dX9_keepAll_8 : decode cX9_keepAll 8 = .ok (.iconst 0, 1) := by decide +kernel
theorem dX9_keepAll_9 : decode cX9_keepAll 9 = .ok (.istore_n 1, 1) := by decide +kernel
theorem dX9_keepAll_10 : decode cX9_keepAll 10 = .ok (.iload_n 1, 1) := by decide +kernel
theorem dX9_keepAll_11 : decode cX9_keepAll 11 = .ok (.aload_n 0, 1) := by decide +kernel
theorem dX9_keepAll_12 : decode cX9_keepAll 12 = .ok (.getfield 77, 3) := by decide +kernel
theorem dX9_keepAll_15 : decode cX9_keepAll 15 = .ok (.if_icmp .ge 21, 3) := by decide +kernel
theorem dX9_keepAll_18 : decode cX9_keepAll 18 = .ok (.aload_n 0, 1) := by decide +kernel
theorem dX9_keepAll_19 : decode cX9_keepAll 19 = .ok (.getfield 31, 3) := by decide +kernel
theorem dX9_keepAll_22 : decode cX9_keepAll 22 = .ok (.iload_n 1, 1) := by decide +kernel
theorem dX9_keepAll_23 : decode cX9_keepAll 23 = .ok (.aload_n 0, 1) := by decide +kernel
theorem dX9_keepAll_24 : decode cX9_keepAll 24 = .ok (.getfield 13, 3) := by decide +kernel
theorem dX9_keepAll_27 : decode cX9_keepAll 27 = .ok (.iload_n 1, 1) := by decide +kernel
theorem dX9_keepAll_28 : decode cX9_keepAll 28 = .ok (.iaload, 1) := by decide +kernel
theorem dX9_keepAll_29 : decode cX9_keepAll 29 = .ok (.iastore, 1) := by decide +kernel
theorem dX9_keepAll_30 : decode cX9_keepAll 30 = .ok (.iinc 1 1, 3) := by decide +kernel
theorem dX9_keepAll_33 : decode cX9_keepAll 33 = .ok (.goto (-23), 3) := by decide +kernel
theorem dX9_keepAll_36 : decode cX9_keepAll 36 = .ok (.iconst 0, 1) := by decide +kernel
theorem dX9_keepAll_37 : decode cX9_keepAll 37 = .ok (.istore_n 1, 1) := by decide +kernel
theorem dX9_keepAll_38 : decode cX9_keepAll 38 = .ok (.iload_n 1, 1) := by decide +kernel
theorem dX9_keepAll_39 : decode cX9_keepAll 39 = .ok (.bipush 28, 2) := by decide +kernel
theorem dX9_keepAll_41 : decode cX9_keepAll 41 = .ok (.if_icmp .ge 21, 3) := by decide +kernel
theorem dX9_keepAll_44 : decode cX9_keepAll 44 = .ok (.aload_n 0, 1) := by decide +kernel
theorem dX9_keepAll_45 : decode cX9_keepAll 45 = .ok (.getfield 34, 3) := by decide +kernel
theorem dX9_keepAll_48 : decode cX9_keepAll 48 = .ok (.iload_n 1, 1) := by decide +kernel
theorem dX9_keepAll_49 : decode cX9_keepAll 49 = .ok (.aload_n 0, 1) := by decide +kernel
theorem dX9_keepAll_50 : decode cX9_keepAll 50 = .ok (.getfield 19, 3) := by decide +kernel
theorem dX9_keepAll_53 : decode cX9_keepAll 53 = .ok (.iload_n 1, 1) := by decide +kernel
theorem dX9_keepAll_54 : decode cX9_keepAll 54 = .ok (.iaload, 1) := by decide +kernel
theorem dX9_keepAll_55 : decode cX9_keepAll 55 = .ok (.iastore, 1) := by decide +kernel
theorem dX9_keepAll_56 : decode cX9_keepAll 56 = .ok (.iinc 1 1, 3) := by decide +kernel
theorem dX9_keepAll_59 : decode cX9_keepAll 59 = .ok (.goto (-21), 3) := by decide +kernel
theorem dX9_keepAll_62 : decode cX9_keepAll 62 = .ok (.return_, 1) := by decide +kernel
theorem dX9_bringBack_0 : decode cX9_bringBack 0 = .ok (.aload_n 0, 1) := by decide +kernel
theorem dX9_bringBack_1 : decode cX9_bringBack 1 = .ok (.aload_n 0, 1) := by decide +kernel
theorem dX9_bringBack_2 : decode cX9_bringBack 2 = .ok (.getfield 196, 3) := by decide +kernel
theorem dX9_bringBack_5 : decode cX9_bringBack 5 = .ok (.putfield 132, 3) := by decide +kernel
theorem dX9_bringBack_8 : decode cX9_bringBack 8 = .ok (.iconst 0, 1) := by decide +kernel
theorem dX9_bringBack_9 : decode cX9_bringBack 9 = .ok (.istore_n 1, 1) := by decide +kernel
theorem dX9_bringBack_10 : decode cX9_bringBack 10 = .ok (.iload_n 1, 1) := by decide +kernel
theorem dX9_bringBack_11 : decode cX9_bringBack 11 = .ok (.aload_n 0, 1) := by decide +kernel
theorem dX9_bringBack_12 : decode cX9_bringBack 12 = .ok (.getfield 77, 3) := by decide +kernel
theorem dX9_bringBack_15 : decode cX9_bringBack 15 = .ok (.if_icmp .ge 21, 3) := by decide +kernel
theorem dX9_bringBack_18 : decode cX9_bringBack 18 = .ok (.aload_n 0, 1) := by decide +kernel
theorem dX9_bringBack_19 : decode cX9_bringBack 19 = .ok (.getfield 13, 3) := by decide +kernel
theorem dX9_bringBack_22 : decode cX9_bringBack 22 = .ok (.iload_n 1, 1) := by decide +kernel
theorem dX9_bringBack_23 : decode cX9_bringBack 23 = .ok (.aload_n 0, 1) := by decide +kernel
theorem dX9_bringBack_24 : decode cX9_bringBack 24 = .ok (.getfield 31, 3) := by decide +kernel
theorem dX9_bringBack_27 : decode cX9_bringBack 27 = .ok (.iload_n 1, 1) := by decide +kernel
theorem dX9_bringBack_28 : decode cX9_bringBack 28 = .ok (.iaload, 1) := by decide +kernel
theorem dX9_bringBack_29 : decode cX9_bringBack 29 = .ok (.iastore, 1) := by decide +kernel
theorem dX9_bringBack_30 : decode cX9_bringBack 30 = .ok (.iinc 1 1, 3) := by decide +kernel
theorem dX9_bringBack_33 : decode cX9_bringBack 33 = .ok (.goto (-23), 3) := by decide +kernel
theorem dX9_bringBack_36 : decode cX9_bringBack 36 = .ok (.iconst 0, 1) := by decide +kernel
theorem dX9_bringBack_37 : decode cX9_bringBack 37 = .ok (.istore_n 1, 1) := by decide +kernel
theorem dX9_bringBack_38 : decode cX9_bringBack 38 = .ok (.iload_n 1, 1) := by decide +kernel
theorem dX9_bringBack_39 : decode cX9_bringBack 39 = .ok (.bipush 28, 2) := by decide +kernel
theorem dX9_bringBack_41 : decode cX9_bringBack 41 = .ok (.if_icmp .ge 21, 3) := by decide +kernel
theorem dX9_bringBack_44 : decode cX9_bringBack 44 = .ok (.aload_n 0, 1) := by decide +kernel
theorem dX9_bringBack_45 : decode cX9_bringBack 45 = .ok (.getfield 19, 3) := by decide +kernel
theorem dX9_bringBack_48 : decode cX9_bringBack 48 = .ok (.iload_n 1, 1) := by decide +kernel
theorem dX9_bringBack_49 : decode cX9_bringBack 49 = .ok (.aload_n 0, 1) := by decide +kernel
theorem dX9_bringBack_50 : decode cX9_bringBack 50 = .ok (.getfield 34, 3) := by decide +kernel
theorem dX9_bringBack_53 : decode cX9_bringBack 53 = .ok (.iload_n 1, 1) := by decide +kernel
theorem dX9_bringBack_54 : decode cX9_bringBack 54 = .ok (.iaload, 1) := by decide +kernel
theorem dX9_bringBack_55 : decode cX9_bringBack 55 = .ok (.iastore, 1) := by decide +kernel
theorem dX9_bringBack_56 : decode cX9_bringBack 56 = .ok (.iinc 1 1, 3) := by decide +kernel
theorem dX9_bringBack_59 : decode cX9_bringBack 59 = .ok (.goto (-21), 3) := by decide +kernel
theorem dX9_bringBack_62 : decode cX9_bringBack 62 = .ok (.return_, 1) := by decide +kernel
theorem dX9_wears_0 : decode cX9_wears 0 = .ok (.iconst 0, 1) := by decide +kernel
theorem dX9_wears_1 : decode cX9_wears 1 = .ok (.istore_n 3, 1) := by decide +kernel
theorem dX9_wears_2 : decode cX9_wears 2 = .ok (.iconst 0, 1) := by decide +kernel
theorem dX9_wears_3 : decode cX9_wears 3 = .ok (.istore 4, 2) := by decide +kernel
theorem dX9_wears_5 : decode cX9_wears 5 = .ok (.iload 4, 2) := by decide +kernel
theorem dX9_wears_7 : decode cX9_wears 7 = .ok (.bipush 7, 2) := by decide +kernel
theorem dX9_wears_9 : decode cX9_wears 9 = .ok (.if_icmp .ge 68, 3) := by decide +kernel
theorem dX9_wears_12 : decode cX9_wears 12 = .ok (.aload_n 0, 1) := by decide +kernel
theorem dX9_wears_13 : decode cX9_wears 13 = .ok (.getfield 19, 3) := by decide +kernel
theorem dX9_wears_16 : decode cX9_wears 16 = .ok (.bipush 7, 2) := by decide +kernel
theorem dX9_wears_18 : decode cX9_wears 18 = .ok (.iload_n 1, 1) := by decide +kernel
theorem dX9_wears_19 : decode cX9_wears 19 = .ok (.imul, 1) := by decide +kernel
theorem dX9_wears_20 : decode cX9_wears 20 = .ok (.iload 4, 2) := by decide +kernel
theorem dX9_wears_22 : decode cX9_wears 22 = .ok (.iadd, 1) := by decide +kernel
theorem dX9_wears_23 : decode cX9_wears 23 = .ok (.dup2, 1) := by decide +kernel
theorem dX9_wears_24 : decode cX9_wears 24 = .ok (.iaload, 1) := by decide +kernel
theorem dX9_wears_25 : decode cX9_wears 25 = .ok (.iload_n 2, 1) := by decide +kernel
theorem dX9_wears_26 : decode cX9_wears 26 = .ok (.iload 4, 2) := by decide +kernel
theorem dX9_wears_28 : decode cX9_wears 28 = .ok (.invokestatic 173, 3) := by decide +kernel
theorem dX9_wears_31 : decode cX9_wears 31 = .ok (.ifCond .eq 7, 3) := by decide +kernel
theorem dX9_wears_34 : decode cX9_wears 34 = .ok (.iconst 1, 1) := by decide +kernel
theorem dX9_wears_35 : decode cX9_wears 35 = .ok (.goto 4, 3) := by decide +kernel
theorem dX9_wears_38 : decode cX9_wears 38 = .ok (.iconst 0, 1) := by decide +kernel
theorem dX9_wears_39 : decode cX9_wears 39 = .ok (.iadd, 1) := by decide +kernel
theorem dX9_wears_40 : decode cX9_wears 40 = .ok (.iastore, 1) := by decide +kernel
theorem dX9_wears_41 : decode cX9_wears 41 = .ok (.iload_n 3, 1) := by decide +kernel
theorem dX9_wears_42 : decode cX9_wears 42 = .ok (.aload_n 0, 1) := by decide +kernel
theorem dX9_wears_43 : decode cX9_wears 43 = .ok (.getfield 19, 3) := by decide +kernel
theorem dX9_wears_46 : decode cX9_wears 46 = .ok (.bipush 7, 2) := by decide +kernel
theorem dX9_wears_48 : decode cX9_wears 48 = .ok (.iload_n 1, 1) := by decide +kernel
theorem dX9_wears_49 : decode cX9_wears 49 = .ok (.imul, 1) := by decide +kernel
theorem dX9_wears_50 : decode cX9_wears 50 = .ok (.iload 4, 2) := by decide +kernel
theorem dX9_wears_52 : decode cX9_wears 52 = .ok (.iadd, 1) := by decide +kernel
theorem dX9_wears_53 : decode cX9_wears 53 = .ok (.iaload, 1) := by decide +kernel
theorem dX9_wears_54 : decode cX9_wears 54 = .ok (.aload_n 0, 1) := by decide +kernel
theorem dX9_wears_55 : decode cX9_wears 55 = .ok (.getfield 129, 3) := by decide +kernel
theorem dX9_wears_58 : decode cX9_wears 58 = .ok (.if_icmp .lt 10, 3) := by decide +kernel
theorem dX9_wears_61 : decode cX9_wears 61 = .ok (.iconst 1, 1) := by decide +kernel
theorem dX9_wears_62 : decode cX9_wears 62 = .ok (.iload 4, 2) := by decide +kernel
theorem dX9_wears_64 : decode cX9_wears 64 = .ok (.ishl, 1) := by decide +kernel
theorem dX9_wears_65 : decode cX9_wears 65 = .ok (.goto 4, 3) := by decide +kernel
theorem dX9_wears_68 : decode cX9_wears 68 = .ok (.iconst 0, 1) := by decide +kernel
theorem dX9_wears_69 : decode cX9_wears 69 = .ok (.ior, 1) := by decide +kernel
theorem dX9_wears_70 : decode cX9_wears 70 = .ok (.istore_n 3, 1) := by decide +kernel
theorem dX9_wears_71 : decode cX9_wears 71 = .ok (.iinc 4 1, 3) := by decide +kernel
theorem dX9_wears_74 : decode cX9_wears 74 = .ok (.goto (-69), 3) := by decide +kernel
theorem dX9_wears_77 : decode cX9_wears 77 = .ok (.aload_n 0, 1) := by decide +kernel
theorem dX9_wears_78 : decode cX9_wears 78 = .ok (.getfield 13, 3) := by decide +kernel
theorem dX9_wears_81 : decode cX9_wears 81 = .ok (.iload_n 1, 1) := by decide +kernel
theorem dX9_wears_82 : decode cX9_wears 82 = .ok (.dup2, 1) := by decide +kernel
theorem dX9_wears_83 : decode cX9_wears 83 = .ok (.iaload, 1) := by decide +kernel
theorem dX9_wears_84 : decode cX9_wears 84 = .ok (.iload_n 3, 1) := by decide +kernel
theorem dX9_wears_85 : decode cX9_wears 85 = .ok (.ior, 1) := by decide +kernel
theorem dX9_wears_86 : decode cX9_wears 86 = .ok (.iastore, 1) := by decide +kernel
theorem dX9_wears_87 : decode cX9_wears 87 = .ok (.return_, 1) := by decide +kernel
theorem dX9_step_0 : decode cX9_step 0 = .ok (.aload_n 0, 1) := by decide +kernel
theorem dX9_step_1 : decode cX9_step 1 = .ok (.getfield 132, 3) := by decide +kernel
theorem dX9_step_4 : decode cX9_step 4 = .ok (.aload_n 0, 1) := by decide +kernel
theorem dX9_step_5 : decode cX9_step 5 = .ok (.invokevirtual 181, 3) := by decide +kernel
theorem dX9_step_8 : decode cX9_step 8 = .ok (.if_icmp .ne 7, 3) := by decide +kernel
theorem dX9_step_11 : decode cX9_step 11 = .ok (.iconst 0, 1) := by decide +kernel
theorem dX9_step_12 : decode cX9_step 12 = .ok (.goto 9, 3) := by decide +kernel
theorem dX9_step_15 : decode cX9_step 15 = .ok (.aload_n 0, 1) := by decide +kernel
theorem dX9_step_16 : decode cX9_step 16 = .ok (.getfield 132, 3) := by decide +kernel
theorem dX9_step_19 : decode cX9_step 19 = .ok (.iconst 1, 1) := by decide +kernel
theorem dX9_step_20 : decode cX9_step 20 = .ok (.iadd, 1) := by decide +kernel
theorem dX9_step_21 : decode cX9_step 21 = .ok (.istore_n 1, 1) := by decide +kernel
theorem dX9_step_22 : decode cX9_step 22 = .ok (.iconst 0, 1) := by decide +kernel
theorem dX9_step_23 : decode cX9_step 23 = .ok (.istore_n 2, 1) := by decide +kernel
theorem dX9_step_24 : decode cX9_step 24 = .ok (.iload_n 2, 1) := by decide +kernel
theorem dX9_step_25 : decode cX9_step 25 = .ok (.aload_n 0, 1) := by decide +kernel
theorem dX9_step_26 : decode cX9_step 26 = .ok (.getfield 77, 3) := by decide +kernel
theorem dX9_step_29 : decode cX9_step 29 = .ok (.if_icmp .ge 40, 3) := by decide +kernel
theorem dX9_step_32 : decode cX9_step 32 = .ok (.aload_n 0, 1) := by decide +kernel
theorem dX9_step_33 : decode cX9_step 33 = .ok (.iload_n 2, 1) := by decide +kernel
theorem dX9_step_34 : decode cX9_step 34 = .ok (.aload_n 0, 1) := by decide +kernel
theorem dX9_step_35 : decode cX9_step 35 = .ok (.iload_n 2, 1) := by decide +kernel
theorem dX9_step_36 : decode cX9_step 36 = .ok (.aload_n 0, 1) := by decide +kernel
theorem dX9_step_37 : decode cX9_step 37 = .ok (.iload_n 2, 1) := by decide +kernel
theorem dX9_step_38 : decode cX9_step 38 = .ok (.aload_n 0, 1) := by decide +kernel
theorem dX9_step_39 : decode cX9_step 39 = .ok (.getfield 132, 3) := by decide +kernel
theorem dX9_step_42 : decode cX9_step 42 = .ok (.invokevirtual 166, 3) := by decide +kernel
theorem dX9_step_45 : decode cX9_step 45 = .ok (.invokevirtual 157, 3) := by decide +kernel
theorem dX9_step_48 : decode cX9_step 48 = .ok (.aload_n 0, 1) := by decide +kernel
theorem dX9_step_49 : decode cX9_step 49 = .ok (.iload_n 2, 1) := by decide +kernel
theorem dX9_step_50 : decode cX9_step 50 = .ok (.aload_n 0, 1) := by decide +kernel
theorem dX9_step_51 : decode cX9_step 51 = .ok (.iload_n 2, 1) := by decide +kernel
theorem dX9_step_52 : decode cX9_step 52 = .ok (.iload_n 1, 1) := by decide +kernel
theorem dX9_step_53 : decode cX9_step 53 = .ok (.invokevirtual 166, 3) := by decide +kernel
theorem dX9_step_56 : decode cX9_step 56 = .ok (.invokevirtual 157, 3) := by decide +kernel
theorem dX9_step_59 : decode cX9_step 59 = .ok (.ixor, 1) := by decide +kernel
theorem dX9_step_60 : decode cX9_step 60 = .ok (.invokevirtual 199, 3) := by decide +kernel
theorem dX9_step_63 : decode cX9_step 63 = .ok (.iinc 2 1, 3) := by decide +kernel
theorem dX9_step_66 : decode cX9_step 66 = .ok (.goto (-42), 3) := by decide +kernel
theorem dX9_step_69 : decode cX9_step 69 = .ok (.aload_n 0, 1) := by decide +kernel
theorem dX9_step_70 : decode cX9_step 70 = .ok (.iload_n 1, 1) := by decide +kernel
theorem dX9_step_71 : decode cX9_step 71 = .ok (.putfield 132, 3) := by decide +kernel
theorem dX9_step_74 : decode cX9_step 74 = .ok (.return_, 1) := by decide +kernel
theorem dX9_deadNow_0 : decode cX9_deadNow 0 = .ok (.iconst 0, 1) := by decide +kernel
theorem dX9_deadNow_1 : decode cX9_deadNow 1 = .ok (.istore_n 1, 1) := by decide +kernel
theorem dX9_deadNow_2 : decode cX9_deadNow 2 = .ok (.iconst 0, 1) := by decide +kernel
theorem dX9_deadNow_3 : decode cX9_deadNow 3 = .ok (.istore_n 2, 1) := by decide +kernel
theorem dX9_deadNow_4 : decode cX9_deadNow 4 = .ok (.iload_n 2, 1) := by decide +kernel
theorem dX9_deadNow_5 : decode cX9_deadNow 5 = .ok (.aload_n 0, 1) := by decide +kernel
theorem dX9_deadNow_6 : decode cX9_deadNow 6 = .ok (.getfield 77, 3) := by decide +kernel
theorem dX9_deadNow_9 : decode cX9_deadNow 9 = .ok (.if_icmp .ge 21, 3) := by decide +kernel
theorem dX9_deadNow_12 : decode cX9_deadNow 12 = .ok (.iload_n 1, 1) := by decide +kernel
theorem dX9_deadNow_13 : decode cX9_deadNow 13 = .ok (.aload_n 0, 1) := by decide +kernel
theorem dX9_deadNow_14 : decode cX9_deadNow 14 = .ok (.getfield 13, 3) := by decide +kernel
theorem dX9_deadNow_17 : decode cX9_deadNow 17 = .ok (.iload_n 2, 1) := by decide +kernel
theorem dX9_deadNow_18 : decode cX9_deadNow 18 = .ok (.iaload, 1) := by decide +kernel
theorem dX9_deadNow_19 : decode cX9_deadNow 19 = .ok (.invokestatic 188, 3) := by decide +kernel
theorem dX9_deadNow_22 : decode cX9_deadNow 22 = .ok (.iadd, 1) := by decide +kernel
theorem dX9_deadNow_23 : decode cX9_deadNow 23 = .ok (.istore_n 1, 1) := by decide +kernel
theorem dX9_deadNow_24 : decode cX9_deadNow 24 = .ok (.iinc 2 1, 3) := by decide +kernel
theorem dX9_deadNow_27 : decode cX9_deadNow 27 = .ok (.goto (-23), 3) := by decide +kernel
theorem dX9_deadNow_30 : decode cX9_deadNow 30 = .ok (.iload_n 1, 1) := by decide +kernel
theorem dX9_deadNow_31 : decode cX9_deadNow 31 = .ok (.ireturn, 1) := by decide +kernel
theorem dX9_go_0 : decode cX9_go 0 = .ok (.aload_n 0, 1) := by decide +kernel
theorem dX9_go_1 : decode cX9_go 1 = .ok (.getfield 77, 3) := by decide +kernel
theorem dX9_go_4 : decode cX9_go 4 = .ok (.ifCond .ne 6, 3) := by decide +kernel
theorem dX9_go_7 : decode cX9_go 7 = .ok (.bipush (-3), 2) := by decide +kernel
theorem dX9_go_9 : decode cX9_go 9 = .ok (.ireturn, 1) := by decide +kernel
theorem dX9_go_10 : decode cX9_go 10 = .ok (.iload_n 1, 1) := by decide +kernel
theorem dX9_go_11 : decode cX9_go 11 = .ok (.i2l, 1) := by decide +kernel
theorem dX9_go_12 : decode cX9_go 12 = .ok (.lconst 1, 1) := by decide +kernel
theorem dX9_go_13 : decode cX9_go 13 = .ok (.ldc2_w 203, 3) := by decide +kernel
theorem dX9_go_16 : decode cX9_go 16 = .ok (.invokestatic 80, 3) := by decide +kernel
theorem dX9_go_19 : decode cX9_go 19 = .ok (.ifCond .ne 6, 3) := by decide +kernel
theorem dX9_go_22 : decode cX9_go 22 = .ok (.bipush (-2), 2) := by decide +kernel
theorem dX9_go_24 : decode cX9_go 24 = .ok (.ireturn, 1) := by decide +kernel
theorem dX9_go_25 : decode cX9_go 25 = .ok (.aload_n 0, 1) := by decide +kernel
theorem dX9_go_26 : decode cX9_go 26 = .ok (.invokevirtual 205, 3) := by decide +kernel
theorem dX9_go_29 : decode cX9_go 29 = .ok (.istore_n 2, 1) := by decide +kernel
theorem dX9_go_30 : decode cX9_go 30 = .ok (.iconst 0, 1) := by decide +kernel
theorem dX9_go_31 : decode cX9_go 31 = .ok (.istore_n 3, 1) := by decide +kernel
theorem dX9_go_32 : decode cX9_go 32 = .ok (.iload_n 3, 1) := by decide +kernel
theorem dX9_go_33 : decode cX9_go 33 = .ok (.iload_n 1, 1) := by decide +kernel
theorem dX9_go_34 : decode cX9_go 34 = .ok (.if_icmp .ge 13, 3) := by decide +kernel
theorem dX9_go_37 : decode cX9_go 37 = .ok (.aload_n 0, 1) := by decide +kernel
theorem dX9_go_38 : decode cX9_go 38 = .ok (.invokevirtual 208, 3) := by decide +kernel
theorem dX9_go_41 : decode cX9_go 41 = .ok (.iinc 3 1, 3) := by decide +kernel
theorem dX9_go_44 : decode cX9_go 44 = .ok (.goto (-12), 3) := by decide +kernel
theorem dX9_go_47 : decode cX9_go 47 = .ok (.aload_n 0, 1) := by decide +kernel
theorem dX9_go_48 : decode cX9_go 48 = .ok (.invokevirtual 205, 3) := by decide +kernel
theorem dX9_go_51 : decode cX9_go 51 = .ok (.iload_n 2, 1) := by decide +kernel
theorem dX9_go_52 : decode cX9_go 52 = .ok (.isub, 1) := by decide +kernel
theorem dX9_go_53 : decode cX9_go 53 = .ok (.ireturn, 1) := by decide +kernel
theorem dX9_diesAt_0 : decode cX9_diesAt 0 = .ok (.aload_n 0, 1) := by decide +kernel
theorem dX9_diesAt_1 : decode cX9_diesAt 1 = .ok (.invokevirtual 211, 3) := by decide +kernel
theorem dX9_diesAt_4 : decode cX9_diesAt 4 = .ok (.bipush (-9), 2) := by decide +kernel
theorem dX9_diesAt_6 : decode cX9_diesAt 6 = .ok (.istore_n 3, 1) := by decide +kernel
theorem dX9_diesAt_7 : decode cX9_diesAt 7 = .ok (.iconst 1, 1) := by decide +kernel
theorem dX9_diesAt_8 : decode cX9_diesAt 8 = .ok (.istore 4, 2) := by decide +kernel
theorem dX9_diesAt_10 : decode cX9_diesAt 10 = .ok (.iload 4, 2) := by decide +kernel
theorem dX9_diesAt_12 : decode cX9_diesAt 12 = .ok (.sipush 1000, 3) := by decide +kernel
theorem dX9_diesAt_15 : decode cX9_diesAt 15 = .ok (.if_icmp .gt 38, 3) := by decide +kernel
theorem dX9_diesAt_18 : decode cX9_diesAt 18 = .ok (.iload_n 3, 1) := by decide +kernel
theorem dX9_diesAt_19 : decode cX9_diesAt 19 = .ok (.ifCond .ge 34, 3) := by decide +kernel
theorem dX9_diesAt_22 : decode cX9_diesAt 22 = .ok (.aload_n 0, 1) := by decide +kernel
theorem dX9_diesAt_23 : decode cX9_diesAt 23 = .ok (.invokevirtual 208, 3) := by decide +kernel
theorem dX9_diesAt_26 : decode cX9_diesAt 26 = .ok (.aload_n 0, 1) := by decide +kernel
theorem dX9_diesAt_27 : decode cX9_diesAt 27 = .ok (.getfield 13, 3) := by decide +kernel
theorem dX9_diesAt_30 : decode cX9_diesAt 30 = .ok (.iload_n 1, 1) := by decide +kernel
theorem dX9_diesAt_31 : decode cX9_diesAt 31 = .ok (.iaload, 1) := by decide +kernel
theorem dX9_diesAt_32 : decode cX9_diesAt 32 = .ok (.iload_n 2, 1) := by decide +kernel
theorem dX9_diesAt_33 : decode cX9_diesAt 33 = .ok (.invokestatic 173, 3) := by decide +kernel
theorem dX9_diesAt_36 : decode cX9_diesAt 36 = .ok (.ifCond .eq 8, 3) := by decide +kernel
theorem dX9_diesAt_39 : decode cX9_diesAt 39 = .ok (.iload 4, 2) := by decide +kernel
theorem dX9_diesAt_41 : decode cX9_diesAt 41 = .ok (.goto 5, 3) := by decide +kernel
theorem dX9_diesAt_44 : decode cX9_diesAt 44 = .ok (.bipush (-9), 2) := by decide +kernel
theorem dX9_diesAt_46 : decode cX9_diesAt 46 = .ok (.istore_n 3, 1) := by decide +kernel
theorem dX9_diesAt_47 : decode cX9_diesAt 47 = .ok (.iinc 4 1, 3) := by decide +kernel
theorem dX9_diesAt_50 : decode cX9_diesAt 50 = .ok (.goto (-40), 3) := by decide +kernel
theorem dX9_diesAt_53 : decode cX9_diesAt 53 = .ok (.aload_n 0, 1) := by decide +kernel
theorem dX9_diesAt_54 : decode cX9_diesAt 54 = .ok (.invokevirtual 214, 3) := by decide +kernel
theorem dX9_diesAt_57 : decode cX9_diesAt 57 = .ok (.iload_n 3, 1) := by decide +kernel
theorem dX9_diesAt_58 : decode cX9_diesAt 58 = .ok (.ireturn, 1) := by decide +kernel
theorem dX9_dies_0 : decode cX9_dies 0 = .ok (.aload_n 0, 1) := by decide +kernel
theorem dX9_dies_1 : decode cX9_dies 1 = .ok (.iload_n 1, 1) := by decide +kernel
theorem dX9_dies_2 : decode cX9_dies 2 = .ok (.invokevirtual 160, 3) := by decide +kernel
theorem dX9_dies_5 : decode cX9_dies 5 = .ok (.ifCond .ne 15, 3) := by decide +kernel
theorem dX9_dies_8 : decode cX9_dies 8 = .ok (.iload_n 2, 1) := by decide +kernel
theorem dX9_dies_9 : decode cX9_dies 9 = .ok (.i2l, 1) := by decide +kernel
theorem dX9_dies_10 : decode cX9_dies 10 = .ok (.lconst 0, 1) := by decide +kernel
theorem dX9_dies_11 : decode cX9_dies 11 = .ok (.ldc2_w 169, 3) := by decide +kernel
theorem dX9_dies_14 : decode cX9_dies 14 = .ok (.invokestatic 80, 3) := by decide +kernel
theorem dX9_dies_17 : decode cX9_dies 17 = .ok (.ifCond .ne 5, 3) := by decide +kernel
theorem dX9_dies_20 : decode cX9_dies 20 = .ok (.iconst (-1), 1) := by decide +kernel
theorem dX9_dies_21 : decode cX9_dies 21 = .ok (.ireturn, 1) := by decide +kernel
theorem dX9_dies_22 : decode cX9_dies 22 = .ok (.aload_n 0, 1) := by decide +kernel
theorem dX9_dies_23 : decode cX9_dies 23 = .ok (.getfield 13, 3) := by decide +kernel
theorem dX9_dies_26 : decode cX9_dies 26 = .ok (.iload_n 1, 1) := by decide +kernel
theorem dX9_dies_27 : decode cX9_dies 27 = .ok (.iaload, 1) := by decide +kernel
theorem dX9_dies_28 : decode cX9_dies 28 = .ok (.iload_n 2, 1) := by decide +kernel
theorem dX9_dies_29 : decode cX9_dies 29 = .ok (.invokestatic 173, 3) := by decide +kernel
theorem dX9_dies_32 : decode cX9_dies 32 = .ok (.ifCond .eq 8, 3) := by decide +kernel
theorem dX9_dies_35 : decode cX9_dies 35 = .ok (.bipush (-9), 2) := by decide +kernel
theorem dX9_dies_37 : decode cX9_dies 37 = .ok (.goto 9, 3) := by decide +kernel
theorem dX9_dies_40 : decode cX9_dies 40 = .ok (.aload_n 0, 1) := by decide +kernel
theorem dX9_dies_41 : decode cX9_dies 41 = .ok (.iload_n 1, 1) := by decide +kernel
theorem dX9_dies_42 : decode cX9_dies 42 = .ok (.iload_n 2, 1) := by decide +kernel
theorem dX9_dies_43 : decode cX9_dies 43 = .ok (.invokevirtual 217, 3) := by decide +kernel
theorem dX9_dies_46 : decode cX9_dies 46 = .ok (.ireturn, 1) := by decide +kernel
theorem dX9_firstDead_0 : decode cX9_firstDead 0 = .ok (.iconst 0, 1) := by decide +kernel
theorem dX9_firstDead_1 : decode cX9_firstDead 1 = .ok (.istore_n 1, 1) := by decide +kernel
theorem dX9_firstDead_2 : decode cX9_firstDead 2 = .ok (.iload_n 1, 1) := by decide +kernel
theorem dX9_firstDead_3 : decode cX9_firstDead 3 = .ok (.aload_n 0, 1) := by decide +kernel
theorem dX9_firstDead_4 : decode cX9_firstDead 4 = .ok (.getfield 77, 3) := by decide +kernel
theorem dX9_firstDead_7 : decode cX9_firstDead 7 = .ok (.if_icmp .ge 52, 3) := by decide +kernel
theorem dX9_firstDead_10 : decode cX9_firstDead 10 = .ok (.iconst 0, 1) := by decide +kernel
theorem dX9_firstDead_11 : decode cX9_firstDead 11 = .ok (.istore_n 2, 1) := by decide +kernel
theorem dX9_firstDead_12 : decode cX9_firstDead 12 = .ok (.iload_n 2, 1) := by decide +kernel
theorem dX9_firstDead_13 : decode cX9_firstDead 13 = .ok (.bipush 7, 2) := by decide +kernel
theorem dX9_firstDead_15 : decode cX9_firstDead 15 = .ok (.if_icmp .ge 38, 3) := by decide +kernel
theorem dX9_firstDead_18 : decode cX9_firstDead 18 = .ok (.aload_n 0, 1) := by decide +kernel
theorem dX9_firstDead_19 : decode cX9_firstDead 19 = .ok (.getfield 13, 3) := by decide +kernel
theorem dX9_firstDead_22 : decode cX9_firstDead 22 = .ok (.iload_n 1, 1) := by decide +kernel
theorem dX9_firstDead_23 : decode cX9_firstDead 23 = .ok (.iaload, 1) := by decide +kernel
theorem dX9_firstDead_24 : decode cX9_firstDead 24 = .ok (.aload_n 0, 1) := by decide +kernel
theorem dX9_firstDead_25 : decode cX9_firstDead 25 = .ok (.getfield 31, 3) := by decide +kernel
theorem dX9_firstDead_28 : decode cX9_firstDead 28 = .ok (.iload_n 1, 1) := by decide +kernel
theorem dX9_firstDead_29 : decode cX9_firstDead 29 = .ok (.iaload, 1) := by decide +kernel
theorem dX9_firstDead_30 : decode cX9_firstDead 30 = .ok (.iconst (-1), 1) := by decide +kernel
theorem dX9_firstDead_31 : decode cX9_firstDead 31 = .ok (.ixor, 1) := by decide +kernel
theorem dX9_firstDead_32 : decode cX9_firstDead 32 = .ok (.iand, 1) := by decide +kernel
theorem dX9_firstDead_33 : decode cX9_firstDead 33 = .ok (.iload_n 2, 1) := by decide +kernel
theorem dX9_firstDead_34 : decode cX9_firstDead 34 = .ok (.invokestatic 173, 3) := by decide +kernel
theorem dX9_firstDead_37 : decode cX9_firstDead 37 = .ok (.ifCond .eq 10, 3) := by decide +kernel
theorem dX9_firstDead_40 : decode cX9_firstDead 40 = .ok (.bipush 7, 2) := by decide +kernel
theorem dX9_firstDead_42 : decode cX9_firstDead 42 = .ok (.iload_n 1, 1) := by decide +kernel
theorem dX9_firstDead_43 : decode cX9_firstDead 43 = .ok (.imul, 1) := by decide +kernel
theorem dX9_firstDead_44 : decode cX9_firstDead 44 = .ok (.iload_n 2, 1) := by decide +kernel
theorem dX9_firstDead_45 : decode cX9_firstDead 45 = .ok (.iadd, 1) := by decide +kernel
theorem dX9_firstDead_46 : decode cX9_firstDead 46 = .ok (.ireturn, 1) := by decide +kernel
theorem dX9_firstDead_47 : decode cX9_firstDead 47 = .ok (.iinc 2 1, 3) := by decide +kernel
theorem dX9_firstDead_50 : decode cX9_firstDead 50 = .ok (.goto (-38), 3) := by decide +kernel
theorem dX9_firstDead_53 : decode cX9_firstDead 53 = .ok (.iinc 1 1, 3) := by decide +kernel
theorem dX9_firstDead_56 : decode cX9_firstDead 56 = .ok (.goto (-54), 3) := by decide +kernel
theorem dX9_firstDead_59 : decode cX9_firstDead 59 = .ok (.bipush (-9), 2) := by decide +kernel
theorem dX9_firstDead_61 : decode cX9_firstDead 61 = .ok (.ireturn, 1) := by decide +kernel
theorem dX9_first_0 : decode cX9_first 0 = .ok (.iload_n 1, 1) := by decide +kernel
theorem dX9_first_1 : decode cX9_first 1 = .ok (.i2l, 1) := by decide +kernel
theorem dX9_first_2 : decode cX9_first 2 = .ok (.lconst 0, 1) := by decide +kernel
theorem dX9_first_3 : decode cX9_first 3 = .ok (.ldc2_w 120, 3) := by decide +kernel
end
section
theorem dX9_first_6 : decode cX9_first 6 = .ok (.invokestatic 80, 3) := by decide +kernel
theorem dX9_first_9 : decode cX9_first 9 = .ok (.ifCond .ne 6, 3) := by decide +kernel
theorem dX9_first_12 : decode cX9_first 12 = .ok (.bipush (-2), 2) := by decide +kernel
theorem dX9_first_14 : decode cX9_first 14 = .ok (.ireturn, 1) := by decide +kernel
theorem dX9_first_15 : decode cX9_first 15 = .ok (.aload_n 0, 1) := by decide +kernel
theorem dX9_first_16 : decode cX9_first 16 = .ok (.getfield 77, 3) := by decide +kernel
theorem dX9_first_19 : decode cX9_first 19 = .ok (.ifCond .ne 6, 3) := by decide +kernel
theorem dX9_first_22 : decode cX9_first 22 = .ok (.bipush (-3), 2) := by decide +kernel
theorem dX9_first_24 : decode cX9_first 24 = .ok (.ireturn, 1) := by decide +kernel
theorem dX9_first_25 : decode cX9_first 25 = .ok (.aload_n 0, 1) := by decide +kernel
theorem dX9_first_26 : decode cX9_first 26 = .ok (.invokevirtual 211, 3) := by decide +kernel
theorem dX9_first_29 : decode cX9_first 29 = .ok (.bipush (-9), 2) := by decide +kernel
theorem dX9_first_31 : decode cX9_first 31 = .ok (.istore_n 2, 1) := by decide +kernel
theorem dX9_first_32 : decode cX9_first 32 = .ok (.iconst 0, 1) := by decide +kernel
theorem dX9_first_33 : decode cX9_first 33 = .ok (.istore_n 3, 1) := by decide +kernel
theorem dX9_first_34 : decode cX9_first 34 = .ok (.iload_n 2, 1) := by decide +kernel
theorem dX9_first_35 : decode cX9_first 35 = .ok (.ifCond .ge 25, 3) := by decide +kernel
theorem dX9_first_38 : decode cX9_first 38 = .ok (.iload_n 3, 1) := by decide +kernel
theorem dX9_first_39 : decode cX9_first 39 = .ok (.sipush 1000, 3) := by decide +kernel
theorem dX9_first_42 : decode cX9_first 42 = .ok (.if_icmp .ge 18, 3) := by decide +kernel
theorem dX9_first_45 : decode cX9_first 45 = .ok (.aload_n 0, 1) := by decide +kernel
theorem dX9_first_46 : decode cX9_first 46 = .ok (.invokevirtual 208, 3) := by decide +kernel
theorem dX9_first_49 : decode cX9_first 49 = .ok (.iinc 3 1, 3) := by decide +kernel
theorem dX9_first_52 : decode cX9_first 52 = .ok (.aload_n 0, 1) := by decide +kernel
theorem dX9_first_53 : decode cX9_first 53 = .ok (.invokevirtual 220, 3) := by decide +kernel
theorem dX9_first_56 : decode cX9_first 56 = .ok (.istore_n 2, 1) := by decide +kernel
theorem dX9_first_57 : decode cX9_first 57 = .ok (.goto (-23), 3) := by decide +kernel
theorem dX9_first_60 : decode cX9_first 60 = .ok (.aload_n 0, 1) := by decide +kernel
theorem dX9_first_61 : decode cX9_first 61 = .ok (.invokevirtual 214, 3) := by decide +kernel
theorem dX9_first_64 : decode cX9_first 64 = .ok (.iload_n 2, 1) := by decide +kernel
theorem dX9_first_65 : decode cX9_first 65 = .ok (.ifCond .ge 8, 3) := by decide +kernel
theorem dX9_first_68 : decode cX9_first 68 = .ok (.bipush (-9), 2) := by decide +kernel
theorem dX9_first_70 : decode cX9_first 70 = .ok (.goto 27, 3) := by decide +kernel
theorem dX9_first_73 : decode cX9_first 73 = .ok (.iload_n 1, 1) := by decide +kernel
theorem dX9_first_74 : decode cX9_first 74 = .ok (.ifCond .ne 10, 3) := by decide +kernel
theorem dX9_first_77 : decode cX9_first 77 = .ok (.iload_n 2, 1) := by decide +kernel
theorem dX9_first_78 : decode cX9_first 78 = .ok (.bipush 7, 2) := by decide +kernel
theorem dX9_first_80 : decode cX9_first 80 = .ok (.idiv, 1) := by decide +kernel
theorem dX9_first_81 : decode cX9_first 81 = .ok (.goto 16, 3) := by decide +kernel
theorem dX9_first_84 : decode cX9_first 84 = .ok (.iload_n 1, 1) := by decide +kernel
theorem dX9_first_85 : decode cX9_first 85 = .ok (.iconst 1, 1) := by decide +kernel
theorem dX9_first_86 : decode cX9_first 86 = .ok (.if_icmp .ne 10, 3) := by decide +kernel
theorem dX9_first_89 : decode cX9_first 89 = .ok (.iload_n 2, 1) := by decide +kernel
theorem dX9_first_90 : decode cX9_first 90 = .ok (.bipush 7, 2) := by decide +kernel
theorem dX9_first_92 : decode cX9_first 92 = .ok (.irem, 1) := by decide +kernel
theorem dX9_first_93 : decode cX9_first 93 = .ok (.goto 4, 3) := by decide +kernel
theorem dX9_first_96 : decode cX9_first 96 = .ok (.iload_n 3, 1) := by decide +kernel
theorem dX9_first_97 : decode cX9_first 97 = .ok (.ireturn, 1) := by decide +kernel
theorem dX9_begins_0 : decode cX9_begins 0 = .ok (.iload 4, 2) := by decide +kernel
theorem dX9_begins_2 : decode cX9_begins 2 = .ok (.iload_n 2, 1) := by decide +kernel
theorem dX9_begins_3 : decode cX9_begins 3 = .ok (.iconst 1, 1) := by decide +kernel
theorem dX9_begins_4 : decode cX9_begins 4 = .ok (.isub, 1) := by decide +kernel
theorem dX9_begins_5 : decode cX9_begins 5 = .ok (.iload_n 3, 1) := by decide +kernel
theorem dX9_begins_6 : decode cX9_begins 6 = .ok (.imul, 1) := by decide +kernel
theorem dX9_begins_7 : decode cX9_begins 7 = .ok (.iadd, 1) := by decide +kernel
theorem dX9_begins_8 : decode cX9_begins 8 = .ok (.aload_n 0, 1) := by decide +kernel
theorem dX9_begins_9 : decode cX9_begins 9 = .ok (.invokevirtual 181, 3) := by decide +kernel
theorem dX9_begins_12 : decode cX9_begins 12 = .ok (.if_icmp .gt 7, 3) := by decide +kernel
theorem dX9_begins_15 : decode cX9_begins 15 = .ok (.iconst 1, 1) := by decide +kernel
theorem dX9_begins_16 : decode cX9_begins 16 = .ok (.goto 4, 3) := by decide +kernel
theorem dX9_begins_19 : decode cX9_begins 19 = .ok (.iconst 0, 1) := by decide +kernel
theorem dX9_begins_20 : decode cX9_begins 20 = .ok (.istore 5, 2) := by decide +kernel
theorem dX9_begins_22 : decode cX9_begins 22 = .ok (.iconst 0, 1) := by decide +kernel
theorem dX9_begins_23 : decode cX9_begins 23 = .ok (.istore 6, 2) := by decide +kernel
theorem dX9_begins_25 : decode cX9_begins 25 = .ok (.iload 6, 2) := by decide +kernel
theorem dX9_begins_27 : decode cX9_begins 27 = .ok (.iload_n 2, 1) := by decide +kernel
theorem dX9_begins_28 : decode cX9_begins 28 = .ok (.if_icmp .ge 83, 3) := by decide +kernel
theorem dX9_begins_31 : decode cX9_begins 31 = .ok (.iload 5, 2) := by decide +kernel
theorem dX9_begins_33 : decode cX9_begins 33 = .ok (.ifCond .eq 78, 3) := by decide +kernel
theorem dX9_begins_36 : decode cX9_begins 36 = .ok (.iconst 0, 1) := by decide +kernel
theorem dX9_begins_37 : decode cX9_begins 37 = .ok (.istore 7, 2) := by decide +kernel
theorem dX9_begins_39 : decode cX9_begins 39 = .ok (.iload 7, 2) := by decide +kernel
theorem dX9_begins_41 : decode cX9_begins 41 = .ok (.aload_n 0, 1) := by decide +kernel
theorem dX9_begins_42 : decode cX9_begins 42 = .ok (.getfield 77, 3) := by decide +kernel
theorem dX9_begins_45 : decode cX9_begins 45 = .ok (.if_icmp .ge 60, 3) := by decide +kernel
theorem dX9_begins_48 : decode cX9_begins 48 = .ok (.iload 5, 2) := by decide +kernel
theorem dX9_begins_50 : decode cX9_begins 50 = .ok (.ifCond .eq 55, 3) := by decide +kernel
theorem dX9_begins_53 : decode cX9_begins 53 = .ok (.aload_n 0, 1) := by decide +kernel
theorem dX9_begins_54 : decode cX9_begins 54 = .ok (.iload 7, 2) := by decide +kernel
theorem dX9_begins_56 : decode cX9_begins 56 = .ok (.aload_n 0, 1) := by decide +kernel
theorem dX9_begins_57 : decode cX9_begins 57 = .ok (.iload 7, 2) := by decide +kernel
theorem dX9_begins_59 : decode cX9_begins 59 = .ok (.iload 4, 2) := by decide +kernel
theorem dX9_begins_61 : decode cX9_begins 61 = .ok (.iload 6, 2) := by decide +kernel
theorem dX9_begins_63 : decode cX9_begins 63 = .ok (.iload_n 3, 1) := by decide +kernel
theorem dX9_begins_64 : decode cX9_begins 64 = .ok (.imul, 1) := by decide +kernel
theorem dX9_begins_65 : decode cX9_begins 65 = .ok (.iadd, 1) := by decide +kernel
theorem dX9_begins_66 : decode cX9_begins 66 = .ok (.invokevirtual 166, 3) := by decide +kernel
theorem dX9_begins_69 : decode cX9_begins 69 = .ok (.invokevirtual 157, 3) := by decide +kernel
theorem dX9_begins_72 : decode cX9_begins 72 = .ok (.aload_n 0, 1) := by decide +kernel
theorem dX9_begins_73 : decode cX9_begins 73 = .ok (.getfield 61, 3) := by decide +kernel
theorem dX9_begins_76 : decode cX9_begins 76 = .ok (.iload_n 1, 1) := by decide +kernel
theorem dX9_begins_77 : decode cX9_begins 77 = .ok (.aload_n 0, 1) := by decide +kernel
theorem dX9_begins_78 : decode cX9_begins 78 = .ok (.getfield 77, 3) := by decide +kernel
theorem dX9_begins_81 : decode cX9_begins 81 = .ok (.iload 6, 2) := by decide +kernel
theorem dX9_begins_83 : decode cX9_begins 83 = .ok (.imul, 1) := by decide +kernel
theorem dX9_begins_84 : decode cX9_begins 84 = .ok (.iadd, 1) := by decide +kernel
theorem dX9_begins_85 : decode cX9_begins 85 = .ok (.iload 7, 2) := by decide +kernel
theorem dX9_begins_87 : decode cX9_begins 87 = .ok (.iadd, 1) := by decide +kernel
theorem dX9_begins_88 : decode cX9_begins 88 = .ok (.iaload, 1) := by decide +kernel
theorem dX9_begins_89 : decode cX9_begins 89 = .ok (.if_icmp .ne 7, 3) := by decide +kernel
theorem dX9_begins_92 : decode cX9_begins 92 = .ok (.iconst 1, 1) := by decide +kernel
theorem dX9_begins_93 : decode cX9_begins 93 = .ok (.goto 4, 3) := by decide +kernel
theorem dX9_begins_96 : decode cX9_begins 96 = .ok (.iconst 0, 1) := by decide +kernel
theorem dX9_begins_97 : decode cX9_begins 97 = .ok (.istore 5, 2) := by decide +kernel
theorem dX9_begins_99 : decode cX9_begins 99 = .ok (.iinc 7 1, 3) := by decide +kernel
theorem dX9_begins_102 : decode cX9_begins 102 = .ok (.goto (-63), 3) := by decide +kernel
theorem dX9_begins_105 : decode cX9_begins 105 = .ok (.iinc 6 1, 3) := by decide +kernel
theorem dX9_begins_108 : decode cX9_begins 108 = .ok (.goto (-83), 3) := by decide +kernel
theorem dX9_begins_111 : decode cX9_begins 111 = .ok (.iload 5, 2) := by decide +kernel
theorem dX9_begins_113 : decode cX9_begins 113 = .ok (.ireturn, 1) := by decide +kernel
theorem dX9_beginsBy_0 : decode cX9_beginsBy 0 = .ok (.iconst 0, 1) := by decide +kernel
theorem dX9_beginsBy_1 : decode cX9_beginsBy 1 = .ok (.istore 5, 2) := by decide +kernel
theorem dX9_beginsBy_3 : decode cX9_beginsBy 3 = .ok (.bipush (-9), 2) := by decide +kernel
theorem dX9_beginsBy_5 : decode cX9_beginsBy 5 = .ok (.istore 6, 2) := by decide +kernel
theorem dX9_beginsBy_7 : decode cX9_beginsBy 7 = .ok (.bipush (-9), 2) := by decide +kernel
theorem dX9_beginsBy_9 : decode cX9_beginsBy 9 = .ok (.istore 7, 2) := by decide +kernel
theorem dX9_beginsBy_11 : decode cX9_beginsBy 11 = .ok (.iconst 0, 1) := by decide +kernel
theorem dX9_beginsBy_12 : decode cX9_beginsBy 12 = .ok (.istore 8, 2) := by decide +kernel
theorem dX9_beginsBy_14 : decode cX9_beginsBy 14 = .ok (.iload 8, 2) := by decide +kernel
theorem dX9_beginsBy_16 : decode cX9_beginsBy 16 = .ok (.aload_n 0, 1) := by decide +kernel
theorem dX9_beginsBy_17 : decode cX9_beginsBy 17 = .ok (.invokevirtual 181, 3) := by decide +kernel
theorem dX9_beginsBy_20 : decode cX9_beginsBy 20 = .ok (.if_icmp .gt 46, 3) := by decide +kernel
theorem dX9_beginsBy_23 : decode cX9_beginsBy 23 = .ok (.iload_n 2, 1) := by decide +kernel
theorem dX9_beginsBy_24 : decode cX9_beginsBy 24 = .ok (.ifCond .eq 15, 3) := by decide +kernel
theorem dX9_beginsBy_27 : decode cX9_beginsBy 27 = .ok (.aload_n 0, 1) := by decide +kernel
theorem dX9_beginsBy_28 : decode cX9_beginsBy 28 = .ok (.iload_n 1, 1) := by decide +kernel
theorem dX9_beginsBy_29 : decode cX9_beginsBy 29 = .ok (.iload_n 2, 1) := by decide +kernel
theorem dX9_beginsBy_30 : decode cX9_beginsBy 30 = .ok (.iload_n 3, 1) := by decide +kernel
theorem dX9_beginsBy_31 : decode cX9_beginsBy 31 = .ok (.iload 8, 2) := by decide +kernel
theorem dX9_beginsBy_33 : decode cX9_beginsBy 33 = .ok (.invokevirtual 223, 3) := by decide +kernel
theorem dX9_beginsBy_36 : decode cX9_beginsBy 36 = .ok (.ifCond .eq 24, 3) := by decide +kernel
theorem dX9_beginsBy_39 : decode cX9_beginsBy 39 = .ok (.iinc 5 1, 3) := by decide +kernel
theorem dX9_beginsBy_42 : decode cX9_beginsBy 42 = .ok (.iload 6, 2) := by decide +kernel
theorem dX9_beginsBy_44 : decode cX9_beginsBy 44 = .ok (.ifCond .ge 8, 3) := by decide +kernel
theorem dX9_beginsBy_47 : decode cX9_beginsBy 47 = .ok (.iload 8, 2) := by decide +kernel
theorem dX9_beginsBy_49 : decode cX9_beginsBy 49 = .ok (.goto 5, 3) := by decide +kernel
theorem dX9_beginsBy_52 : decode cX9_beginsBy 52 = .ok (.iload 6, 2) := by decide +kernel
theorem dX9_beginsBy_54 : decode cX9_beginsBy 54 = .ok (.istore 6, 2) := by decide +kernel
theorem dX9_beginsBy_56 : decode cX9_beginsBy 56 = .ok (.iload 8, 2) := by decide +kernel
theorem dX9_beginsBy_58 : decode cX9_beginsBy 58 = .ok (.istore 7, 2) := by decide +kernel
theorem dX9_beginsBy_60 : decode cX9_beginsBy 60 = .ok (.iinc 8 1, 3) := by decide +kernel
theorem dX9_beginsBy_63 : decode cX9_beginsBy 63 = .ok (.goto (-49), 3) := by decide +kernel
theorem dX9_beginsBy_66 : decode cX9_beginsBy 66 = .ok (.iload 4, 2) := by decide +kernel
theorem dX9_beginsBy_68 : decode cX9_beginsBy 68 = .ok (.ifCond .ne 8, 3) := by decide +kernel
theorem dX9_beginsBy_71 : decode cX9_beginsBy 71 = .ok (.iload 5, 2) := by decide +kernel
theorem dX9_beginsBy_73 : decode cX9_beginsBy 73 = .ok (.goto 16, 3) := by decide +kernel
theorem dX9_beginsBy_76 : decode cX9_beginsBy 76 = .ok (.iload 4, 2) := by decide +kernel
theorem dX9_beginsBy_78 : decode cX9_beginsBy 78 = .ok (.iconst 1, 1) := by decide +kernel
theorem dX9_beginsBy_79 : decode cX9_beginsBy 79 = .ok (.if_icmp .ne 8, 3) := by decide +kernel
theorem dX9_beginsBy_82 : decode cX9_beginsBy 82 = .ok (.iload 6, 2) := by decide +kernel
theorem dX9_beginsBy_84 : decode cX9_beginsBy 84 = .ok (.goto 5, 3) := by decide +kernel
theorem dX9_beginsBy_87 : decode cX9_beginsBy 87 = .ok (.iload 7, 2) := by decide +kernel
theorem dX9_beginsBy_89 : decode cX9_beginsBy 89 = .ok (.ireturn, 1) := by decide +kernel
theorem dX9_seen_0 : decode cX9_seen 0 = .ok (.iload_n 1, 1) := by decide +kernel
theorem dX9_seen_1 : decode cX9_seen 1 = .ok (.invokestatic 113, 3) := by decide +kernel
theorem dX9_seen_4 : decode cX9_seen 4 = .ok (.ifCond .eq 9, 3) := by decide +kernel
theorem dX9_seen_7 : decode cX9_seen 7 = .ok (.aload_n 0, 1) := by decide +kernel
theorem dX9_seen_8 : decode cX9_seen 8 = .ok (.iconst (-1), 1) := by decide +kernel
theorem dX9_seen_9 : decode cX9_seen 9 = .ok (.invokevirtual 117, 3) := by decide +kernel
theorem dX9_seen_12 : decode cX9_seen 12 = .ok (.ireturn, 1) := by decide +kernel
theorem dX9_seen_13 : decode cX9_seen 13 = .ok (.iload_n 2, 1) := by decide +kernel
theorem dX9_seen_14 : decode cX9_seen 14 = .ok (.i2l, 1) := by decide +kernel
theorem dX9_seen_15 : decode cX9_seen 15 = .ok (.lconst 0, 1) := by decide +kernel
theorem dX9_seen_16 : decode cX9_seen 16 = .ok (.ldc2_w 120, 3) := by decide +kernel
theorem dX9_seen_19 : decode cX9_seen 19 = .ok (.invokestatic 80, 3) := by decide +kernel
theorem dX9_seen_22 : decode cX9_seen 22 = .ok (.ifCond .eq 42, 3) := by decide +kernel
theorem dX9_seen_25 : decode cX9_seen 25 = .ok (.iload 4, 2) := by decide +kernel
theorem dX9_seen_27 : decode cX9_seen 27 = .ok (.i2l, 1) := by decide +kernel
theorem dX9_seen_28 : decode cX9_seen 28 = .ok (.lconst 0, 1) := by decide +kernel
theorem dX9_seen_29 : decode cX9_seen 29 = .ok (.ldc2_w 227, 3) := by decide +kernel
theorem dX9_seen_32 : decode cX9_seen 32 = .ok (.invokestatic 80, 3) := by decide +kernel
theorem dX9_seen_35 : decode cX9_seen 35 = .ok (.ifCond .eq 29, 3) := by decide +kernel
theorem dX9_seen_38 : decode cX9_seen 38 = .ok (.iload 5, 2) := by decide +kernel
theorem dX9_seen_40 : decode cX9_seen 40 = .ok (.i2l, 1) := by decide +kernel
theorem dX9_seen_41 : decode cX9_seen 41 = .ok (.lconst 0, 1) := by decide +kernel
theorem dX9_seen_42 : decode cX9_seen 42 = .ok (.ldc2_w 229, 3) := by decide +kernel
theorem dX9_seen_45 : decode cX9_seen 45 = .ok (.invokestatic 80, 3) := by decide +kernel
theorem dX9_seen_48 : decode cX9_seen 48 = .ok (.ifCond .eq 16, 3) := by decide +kernel
theorem dX9_seen_51 : decode cX9_seen 51 = .ok (.iload 6, 2) := by decide +kernel
theorem dX9_seen_53 : decode cX9_seen 53 = .ok (.i2l, 1) := by decide +kernel
theorem dX9_seen_54 : decode cX9_seen 54 = .ok (.lconst 0, 1) := by decide +kernel
theorem dX9_seen_55 : decode cX9_seen 55 = .ok (.ldc2_w 120, 3) := by decide +kernel
theorem dX9_seen_58 : decode cX9_seen 58 = .ok (.invokestatic 80, 3) := by decide +kernel
theorem dX9_seen_61 : decode cX9_seen 61 = .ok (.ifCond .ne 10, 3) := by decide +kernel
theorem dX9_seen_64 : decode cX9_seen 64 = .ok (.aload_n 0, 1) := by decide +kernel
theorem dX9_seen_65 : decode cX9_seen 65 = .ok (.bipush (-2), 2) := by decide +kernel
theorem dX9_seen_67 : decode cX9_seen 67 = .ok (.invokevirtual 117, 3) := by decide +kernel
theorem dX9_seen_70 : decode cX9_seen 70 = .ok (.ireturn, 1) := by decide +kernel
theorem dX9_seen_71 : decode cX9_seen 71 = .ok (.aload_n 0, 1) := by decide +kernel
theorem dX9_seen_72 : decode cX9_seen 72 = .ok (.getfield 77, 3) := by decide +kernel
theorem dX9_seen_75 : decode cX9_seen 75 = .ok (.ifCond .ne 10, 3) := by decide +kernel
theorem dX9_seen_78 : decode cX9_seen 78 = .ok (.aload_n 0, 1) := by decide +kernel
theorem dX9_seen_79 : decode cX9_seen 79 = .ok (.bipush (-3), 2) := by decide +kernel
theorem dX9_seen_81 : decode cX9_seen 81 = .ok (.invokevirtual 117, 3) := by decide +kernel
theorem dX9_seen_84 : decode cX9_seen 84 = .ok (.ireturn, 1) := by decide +kernel
theorem dX9_seen_85 : decode cX9_seen 85 = .ok (.aload_n 0, 1) := by decide +kernel
theorem dX9_seen_86 : decode cX9_seen 86 = .ok (.iload_n 1, 1) := by decide +kernel
theorem dX9_seen_87 : decode cX9_seen 87 = .ok (.iload_n 2, 1) := by decide +kernel
theorem dX9_seen_88 : decode cX9_seen 88 = .ok (.iload_n 3, 1) := by decide +kernel
theorem dX9_seen_89 : decode cX9_seen 89 = .ok (.iload 4, 2) := by decide +kernel
theorem dX9_seen_91 : decode cX9_seen 91 = .ok (.aload_n 0, 1) := by decide +kernel
theorem dX9_seen_92 : decode cX9_seen 92 = .ok (.getfield 77, 3) := by decide +kernel
theorem dX9_seen_95 : decode cX9_seen 95 = .ok (.imul, 1) := by decide +kernel
theorem dX9_seen_96 : decode cX9_seen 96 = .ok (.i2l, 1) := by decide +kernel
theorem dX9_seen_97 : decode cX9_seen 97 = .ok (.invokevirtual 122, 3) := by decide +kernel
theorem dX9_seen_100 : decode cX9_seen 100 = .ok (.istore 7, 2) := by decide +kernel
theorem dX9_seen_102 : decode cX9_seen 102 = .ok (.iload 7, 2) := by decide +kernel
theorem dX9_seen_104 : decode cX9_seen 104 = .ok (.ifCond .ge 6, 3) := by decide +kernel
theorem dX9_seen_107 : decode cX9_seen 107 = .ok (.iload 7, 2) := by decide +kernel
theorem dX9_seen_109 : decode cX9_seen 109 = .ok (.ireturn, 1) := by decide +kernel
theorem dX9_seen_110 : decode cX9_seen 110 = .ok (.iconst 0, 1) := by decide +kernel
theorem dX9_seen_111 : decode cX9_seen 111 = .ok (.istore 8, 2) := by decide +kernel
theorem dX9_seen_113 : decode cX9_seen 113 = .ok (.iload 8, 2) := by decide +kernel
theorem dX9_seen_115 : decode cX9_seen 115 = .ok (.iload 4, 2) := by decide +kernel
theorem dX9_seen_117 : decode cX9_seen 117 = .ok (.aload_n 0, 1) := by decide +kernel
theorem dX9_seen_118 : decode cX9_seen 118 = .ok (.getfield 77, 3) := by decide +kernel
theorem dX9_seen_121 : decode cX9_seen 121 = .ok (.imul, 1) := by decide +kernel
theorem dX9_seen_122 : decode cX9_seen 122 = .ok (.if_icmp .ge 41, 3) := by decide +kernel
theorem dX9_seen_125 : decode cX9_seen 125 = .ok (.aload_n 0, 1) := by decide +kernel
theorem dX9_seen_126 : decode cX9_seen 126 = .ok (.getfield 61, 3) := by decide +kernel
theorem dX9_seen_129 : decode cX9_seen 129 = .ok (.bipush 60, 2) := by decide +kernel
theorem dX9_seen_131 : decode cX9_seen 131 = .ok (.iload_n 1, 1) := by decide +kernel
theorem dX9_seen_132 : decode cX9_seen 132 = .ok (.imul, 1) := by decide +kernel
theorem dX9_seen_133 : decode cX9_seen 133 = .ok (.iload_n 3, 1) := by decide +kernel
theorem dX9_seen_134 : decode cX9_seen 134 = .ok (.iadd, 1) := by decide +kernel
theorem dX9_seen_135 : decode cX9_seen 135 = .ok (.iload 8, 2) := by decide +kernel
theorem dX9_seen_137 : decode cX9_seen 137 = .ok (.iadd, 1) := by decide +kernel
theorem dX9_seen_138 : decode cX9_seen 138 = .ok (.iaload, 1) := by decide +kernel
theorem dX9_seen_139 : decode cX9_seen 139 = .ok (.i2l, 1) := by decide +kernel
theorem dX9_seen_140 : decode cX9_seen 140 = .ok (.lconst 0, 1) := by decide +kernel
theorem dX9_seen_141 : decode cX9_seen 141 = .ok (.ldc2_w 171, 3) := by decide +kernel
theorem dX9_seen_144 : decode cX9_seen 144 = .ok (.invokestatic 80, 3) := by decide +kernel
theorem dX9_seen_147 : decode cX9_seen 147 = .ok (.ifCond .ne 10, 3) := by decide +kernel
theorem dX9_seen_150 : decode cX9_seen 150 = .ok (.aload_n 0, 1) := by decide +kernel
theorem dX9_seen_151 : decode cX9_seen 151 = .ok (.bipush (-2), 2) := by decide +kernel
theorem dX9_seen_153 : decode cX9_seen 153 = .ok (.invokevirtual 117, 3) := by decide +kernel
theorem dX9_seen_156 : decode cX9_seen 156 = .ok (.ireturn, 1) := by decide +kernel
theorem dX9_seen_157 : decode cX9_seen 157 = .ok (.iinc 8 1, 3) := by decide +kernel
theorem dX9_seen_160 : decode cX9_seen 160 = .ok (.goto (-47), 3) := by decide +kernel
theorem dX9_seen_163 : decode cX9_seen 163 = .ok (.aload_n 0, 1) := by decide +kernel
theorem dX9_seen_164 : decode cX9_seen 164 = .ok (.aload_n 0, 1) := by decide +kernel
theorem dX9_seen_165 : decode cX9_seen 165 = .ok (.bipush 60, 2) := by decide +kernel
theorem dX9_seen_167 : decode cX9_seen 167 = .ok (.iload_n 1, 1) := by decide +kernel
theorem dX9_seen_168 : decode cX9_seen 168 = .ok (.imul, 1) := by decide +kernel
theorem dX9_seen_169 : decode cX9_seen 169 = .ok (.iload_n 3, 1) := by decide +kernel
theorem dX9_seen_170 : decode cX9_seen 170 = .ok (.iadd, 1) := by decide +kernel
theorem dX9_seen_171 : decode cX9_seen 171 = .ok (.iload 4, 2) := by decide +kernel
theorem dX9_seen_173 : decode cX9_seen 173 = .ok (.iload 5, 2) := by decide +kernel
theorem dX9_seen_175 : decode cX9_seen 175 = .ok (.iload 6, 2) := by decide +kernel
theorem dX9_seen_177 : decode cX9_seen 177 = .ok (.invokevirtual 231, 3) := by decide +kernel
theorem dX9_seen_180 : decode cX9_seen 180 = .ok (.invokevirtual 117, 3) := by decide +kernel
theorem dX9_seen_183 : decode cX9_seen 183 = .ok (.ireturn, 1) := by decide +kernel
theorem dX9_repair_0 : decode cX9_repair 0 = .ok (.aload_n 0, 1) := by decide +kernel
theorem dX9_repair_1 : decode cX9_repair 1 = .ok (.iload_n 1, 1) := by decide +kernel
theorem dX9_repair_2 : decode cX9_repair 2 = .ok (.invokevirtual 160, 3) := by decide +kernel
theorem dX9_repair_5 : decode cX9_repair 5 = .ok (.ifCond .eq 5, 3) := by decide +kernel
theorem dX9_repair_8 : decode cX9_repair 8 = .ok (.iconst (-1), 1) := by decide +kernel
theorem dX9_repair_9 : decode cX9_repair 9 = .ok (.ireturn, 1) := by decide +kernel
theorem dX9_repair_10 : decode cX9_repair 10 = .ok (.aload_n 0, 1) := by decide +kernel
theorem dX9_repair_11 : decode cX9_repair 11 = .ok (.getfield 13, 3) := by decide +kernel
theorem dX9_repair_14 : decode cX9_repair 14 = .ok (.iload_n 1, 1) := by decide +kernel
theorem dX9_repair_15 : decode cX9_repair 15 = .ok (.iaload, 1) := by decide +kernel
theorem dX9_repair_16 : decode cX9_repair 16 = .ok (.istore_n 2, 1) := by decide +kernel
theorem dX9_repair_17 : decode cX9_repair 17 = .ok (.bipush (-9), 2) := by decide +kernel
theorem dX9_repair_19 : decode cX9_repair 19 = .ok (.istore_n 3, 1) := by decide +kernel
theorem dX9_repair_20 : decode cX9_repair 20 = .ok (.iconst 0, 1) := by decide +kernel
theorem dX9_repair_21 : decode cX9_repair 21 = .ok (.istore 4, 2) := by decide +kernel
theorem dX9_repair_23 : decode cX9_repair 23 = .ok (.iload 4, 2) := by decide +kernel
theorem dX9_repair_25 : decode cX9_repair 25 = .ok (.bipush 127, 2) := by decide +kernel
theorem dX9_repair_27 : decode cX9_repair 27 = .ok (.if_icmp .gt 75, 3) := by decide +kernel
theorem dX9_repair_30 : decode cX9_repair 30 = .ok (.iload 4, 2) := by decide +kernel
theorem dX9_repair_32 : decode cX9_repair 32 = .ok (.iload_n 2, 1) := by decide +kernel
theorem dX9_repair_33 : decode cX9_repair 33 = .ok (.iconst (-1), 1) := by decide +kernel
theorem dX9_repair_34 : decode cX9_repair 34 = .ok (.ixor, 1) := by decide +kernel
theorem dX9_repair_35 : decode cX9_repair 35 = .ok (.iand, 1) := by decide +kernel
theorem dX9_repair_36 : decode cX9_repair 36 = .ok (.ifCond .ne 23, 3) := by decide +kernel
theorem dX9_repair_39 : decode cX9_repair 39 = .ok (.iload_n 3, 1) := by decide +kernel
theorem dX9_repair_40 : decode cX9_repair 40 = .ok (.ifCond .lt 15, 3) := by decide +kernel
theorem dX9_repair_43 : decode cX9_repair 43 = .ok (.iload 4, 2) := by decide +kernel
theorem dX9_repair_45 : decode cX9_repair 45 = .ok (.invokestatic 188, 3) := by decide +kernel
theorem dX9_repair_48 : decode cX9_repair 48 = .ok (.iload_n 3, 1) := by decide +kernel
theorem dX9_repair_49 : decode cX9_repair 49 = .ok (.invokestatic 188, 3) := by decide +kernel
theorem dX9_repair_52 : decode cX9_repair 52 = .ok (.if_icmp .ge 7, 3) := by decide +kernel
theorem dX9_repair_55 : decode cX9_repair 55 = .ok (.iconst 1, 1) := by decide +kernel
theorem dX9_repair_56 : decode cX9_repair 56 = .ok (.goto 4, 3) := by decide +kernel
theorem dX9_repair_59 : decode cX9_repair 59 = .ok (.iconst 0, 1) := by decide +kernel
theorem dX9_repair_60 : decode cX9_repair 60 = .ok (.istore 5, 2) := by decide +kernel
theorem dX9_repair_62 : decode cX9_repair 62 = .ok (.aload_n 0, 1) := by decide +kernel
theorem dX9_repair_63 : decode cX9_repair 63 = .ok (.getfield 13, 3) := by decide +kernel
theorem dX9_repair_66 : decode cX9_repair 66 = .ok (.iload_n 1, 1) := by decide +kernel
theorem dX9_repair_67 : decode cX9_repair 67 = .ok (.iload_n 2, 1) := by decide +kernel
theorem dX9_repair_68 : decode cX9_repair 68 = .ok (.iload 4, 2) := by decide +kernel
theorem dX9_repair_70 : decode cX9_repair 70 = .ok (.iconst (-1), 1) := by decide +kernel
theorem dX9_repair_71 : decode cX9_repair 71 = .ok (.ixor, 1) := by decide +kernel
theorem dX9_repair_72 : decode cX9_repair 72 = .ok (.iand, 1) := by decide +kernel
theorem dX9_repair_73 : decode cX9_repair 73 = .ok (.iastore, 1) := by decide +kernel
theorem dX9_repair_74 : decode cX9_repair 74 = .ok (.iload 5, 2) := by decide +kernel
theorem dX9_repair_76 : decode cX9_repair 76 = .ok (.ifCond .eq 18, 3) := by decide +kernel
theorem dX9_repair_79 : decode cX9_repair 79 = .ok (.aload_n 0, 1) := by decide +kernel
theorem dX9_repair_80 : decode cX9_repair 80 = .ok (.iload_n 1, 1) := by decide +kernel
theorem dX9_repair_81 : decode cX9_repair 81 = .ok (.invokevirtual 163, 3) := by decide +kernel
theorem dX9_repair_84 : decode cX9_repair 84 = .ok (.bipush 10, 2) := by decide +kernel
theorem dX9_repair_86 : decode cX9_repair 86 = .ok (.if_icmp .ne 8, 3) := by decide +kernel
theorem dX9_repair_89 : decode cX9_repair 89 = .ok (.iload 4, 2) := by decide +kernel
theorem dX9_repair_91 : decode cX9_repair 91 = .ok (.goto 4, 3) := by decide +kernel
theorem dX9_repair_94 : decode cX9_repair 94 = .ok (.iload_n 3, 1) := by decide +kernel
theorem dX9_repair_95 : decode cX9_repair 95 = .ok (.istore_n 3, 1) := by decide +kernel
theorem dX9_repair_96 : decode cX9_repair 96 = .ok (.iinc 4 1, 3) := by decide +kernel
theorem dX9_repair_99 : decode cX9_repair 99 = .ok (.goto (-76), 3) := by decide +kernel
theorem dX9_repair_102 : decode cX9_repair 102 = .ok (.aload_n 0, 1) := by decide +kernel
theorem dX9_repair_103 : decode cX9_repair 103 = .ok (.getfield 13, 3) := by decide +kernel
theorem dX9_repair_106 : decode cX9_repair 106 = .ok (.iload_n 1, 1) := by decide +kernel
theorem dX9_repair_107 : decode cX9_repair 107 = .ok (.iload_n 2, 1) := by decide +kernel
theorem dX9_repair_108 : decode cX9_repair 108 = .ok (.iastore, 1) := by decide +kernel
theorem dX9_repair_109 : decode cX9_repair 109 = .ok (.iload_n 3, 1) := by decide +kernel
theorem dX9_repair_110 : decode cX9_repair 110 = .ok (.ireturn, 1) := by decide +kernel
theorem dX9_orderFlips_0 : decode cX9_orderFlips 0 = .ok (.iconst 0, 1) := by decide +kernel
theorem dX9_orderFlips_1 : decode cX9_orderFlips 1 = .ok (.istore_n 2, 1) := by decide +kernel
theorem dX9_orderFlips_2 : decode cX9_orderFlips 2 = .ok (.iconst 1, 1) := by decide +kernel
theorem dX9_orderFlips_3 : decode cX9_orderFlips 3 = .ok (.istore_n 3, 1) := by decide +kernel
theorem dX9_orderFlips_4 : decode cX9_orderFlips 4 = .ok (.iload_n 3, 1) := by decide +kernel
theorem dX9_orderFlips_5 : decode cX9_orderFlips 5 = .ok (.iload_n 1, 1) := by decide +kernel
theorem dX9_orderFlips_6 : decode cX9_orderFlips 6 = .ok (.if_icmp .ge 35, 3) := by decide +kernel
theorem dX9_orderFlips_9 : decode cX9_orderFlips 9 = .ok (.iload_n 2, 1) := by decide +kernel
theorem dX9_orderFlips_10 : decode cX9_orderFlips 10 = .ok (.aload_n 0, 1) := by decide +kernel
theorem dX9_orderFlips_11 : decode cX9_orderFlips 11 = .ok (.getfield 37, 3) := by decide +kernel
theorem dX9_orderFlips_14 : decode cX9_orderFlips 14 = .ok (.bipush 6, 2) := by decide +kernel
theorem dX9_orderFlips_16 : decode cX9_orderFlips 16 = .ok (.aload_n 0, 1) := by decide +kernel
theorem dX9_orderFlips_17 : decode cX9_orderFlips 17 = .ok (.getfield 40, 3) := by decide +kernel
theorem dX9_orderFlips_20 : decode cX9_orderFlips 20 = .ok (.iload_n 3, 1) := by decide +kernel
theorem dX9_orderFlips_21 : decode cX9_orderFlips 21 = .ok (.iconst 1, 1) := by decide +kernel
theorem dX9_orderFlips_22 : decode cX9_orderFlips 22 = .ok (.isub, 1) := by decide +kernel
theorem dX9_orderFlips_23 : decode cX9_orderFlips 23 = .ok (.iaload, 1) := by decide +kernel
theorem dX9_orderFlips_24 : decode cX9_orderFlips 24 = .ok (.imul, 1) := by decide +kernel
theorem dX9_orderFlips_25 : decode cX9_orderFlips 25 = .ok (.aload_n 0, 1) := by decide +kernel
theorem dX9_orderFlips_26 : decode cX9_orderFlips 26 = .ok (.getfield 40, 3) := by decide +kernel
theorem dX9_orderFlips_29 : decode cX9_orderFlips 29 = .ok (.iload_n 3, 1) := by decide +kernel
theorem dX9_orderFlips_30 : decode cX9_orderFlips 30 = .ok (.iaload, 1) := by decide +kernel
theorem dX9_orderFlips_31 : decode cX9_orderFlips 31 = .ok (.iadd, 1) := by decide +kernel
theorem dX9_orderFlips_32 : decode cX9_orderFlips 32 = .ok (.iaload, 1) := by decide +kernel
theorem dX9_orderFlips_33 : decode cX9_orderFlips 33 = .ok (.iadd, 1) := by decide +kernel
theorem dX9_orderFlips_34 : decode cX9_orderFlips 34 = .ok (.istore_n 2, 1) := by decide +kernel
theorem dX9_orderFlips_35 : decode cX9_orderFlips 35 = .ok (.iinc 3 1, 3) := by decide +kernel
theorem dX9_orderFlips_38 : decode cX9_orderFlips 38 = .ok (.goto (-34), 3) := by decide +kernel
theorem dX9_orderFlips_41 : decode cX9_orderFlips 41 = .ok (.iload_n 2, 1) := by decide +kernel
theorem dX9_orderFlips_42 : decode cX9_orderFlips 42 = .ok (.ireturn, 1) := by decide +kernel
theorem dX9_exchange_0 : decode cX9_exchange 0 = .ok (.aload_n 0, 1) := by decide +kernel
theorem dX9_exchange_1 : decode cX9_exchange 1 = .ok (.getfield 40, 3) := by decide +kernel
theorem dX9_exchange_4 : decode cX9_exchange 4 = .ok (.iload_n 1, 1) := by decide +kernel
theorem dX9_exchange_5 : decode cX9_exchange 5 = .ok (.iaload, 1) := by decide +kernel
theorem dX9_exchange_6 : decode cX9_exchange 6 = .ok (.istore_n 3, 1) := by decide +kernel
theorem dX9_exchange_7 : decode cX9_exchange 7 = .ok (.aload_n 0, 1) := by decide +kernel
theorem dX9_exchange_8 : decode cX9_exchange 8 = .ok (.getfield 40, 3) := by decide +kernel
theorem dX9_exchange_11 : decode cX9_exchange 11 = .ok (.iload_n 1, 1) := by decide +kernel
theorem dX9_exchange_12 : decode cX9_exchange 12 = .ok (.aload_n 0, 1) := by decide +kernel
theorem dX9_exchange_13 : decode cX9_exchange 13 = .ok (.getfield 40, 3) := by decide +kernel
theorem dX9_exchange_16 : decode cX9_exchange 16 = .ok (.iload_n 2, 1) := by decide +kernel
theorem dX9_exchange_17 : decode cX9_exchange 17 = .ok (.iaload, 1) := by decide +kernel
theorem dX9_exchange_18 : decode cX9_exchange 18 = .ok (.iastore, 1) := by decide +kernel
theorem dX9_exchange_19 : decode cX9_exchange 19 = .ok (.aload_n 0, 1) := by decide +kernel
theorem dX9_exchange_20 : decode cX9_exchange 20 = .ok (.getfield 40, 3) := by decide +kernel
theorem dX9_exchange_23 : decode cX9_exchange 23 = .ok (.iload_n 2, 1) := by decide +kernel
theorem dX9_exchange_24 : decode cX9_exchange 24 = .ok (.iload_n 3, 1) := by decide +kernel
theorem dX9_exchange_25 : decode cX9_exchange 25 = .ok (.iastore, 1) := by decide +kernel
theorem dX9_exchange_26 : decode cX9_exchange 26 = .ok (.return_, 1) := by decide +kernel
theorem dX9_nextOrder_0 : decode cX9_nextOrder 0 = .ok (.iload_n 1, 1) := by decide +kernel
theorem dX9_nextOrder_1 : decode cX9_nextOrder 1 = .ok (.iconst 2, 1) := by decide +kernel
theorem dX9_nextOrder_2 : decode cX9_nextOrder 2 = .ok (.isub, 1) := by decide +kernel
theorem dX9_nextOrder_3 : decode cX9_nextOrder 3 = .ok (.istore_n 2, 1) := by decide +kernel
theorem dX9_nextOrder_4 : decode cX9_nextOrder 4 = .ok (.iload_n 2, 1) := by decide +kernel
theorem dX9_nextOrder_5 : decode cX9_nextOrder 5 = .ok (.ifCond .lt 26, 3) := by decide +kernel
theorem dX9_nextOrder_8 : decode cX9_nextOrder 8 = .ok (.aload_n 0, 1) := by decide +kernel
theorem dX9_nextOrder_9 : decode cX9_nextOrder 9 = .ok (.getfield 40, 3) := by decide +kernel
theorem dX9_nextOrder_12 : decode cX9_nextOrder 12 = .ok (.iload_n 2, 1) := by decide +kernel
theorem dX9_nextOrder_13 : decode cX9_nextOrder 13 = .ok (.iaload, 1) := by decide +kernel
theorem dX9_nextOrder_14 : decode cX9_nextOrder 14 = .ok (.aload_n 0, 1) := by decide +kernel
theorem dX9_nextOrder_15 : decode cX9_nextOrder 15 = .ok (.getfield 40, 3) := by decide +kernel
theorem dX9_nextOrder_18 : decode cX9_nextOrder 18 = .ok (.iload_n 2, 1) := by decide +kernel
theorem dX9_nextOrder_19 : decode cX9_nextOrder 19 = .ok (.iconst 1, 1) := by decide +kernel
theorem dX9_nextOrder_20 : decode cX9_nextOrder 20 = .ok (.iadd, 1) := by decide +kernel
theorem dX9_nextOrder_21 : decode cX9_nextOrder 21 = .ok (.iaload, 1) := by decide +kernel
theorem dX9_nextOrder_22 : decode cX9_nextOrder 22 = .ok (.if_icmp .le 9, 3) := by decide +kernel
theorem dX9_nextOrder_25 : decode cX9_nextOrder 25 = .ok (.iinc 2 (-1), 3) := by decide +kernel
theorem dX9_nextOrder_28 : decode cX9_nextOrder 28 = .ok (.goto (-24), 3) := by decide +kernel
theorem dX9_nextOrder_31 : decode cX9_nextOrder 31 = .ok (.iload_n 2, 1) := by decide +kernel
theorem dX9_nextOrder_32 : decode cX9_nextOrder 32 = .ok (.ifCond .ge 5, 3) := by decide +kernel
theorem dX9_nextOrder_35 : decode cX9_nextOrder 35 = .ok (.iconst 0, 1) := by decide +kernel
theorem dX9_nextOrder_36 : decode cX9_nextOrder 36 = .ok (.ireturn, 1) := by decide +kernel
theorem dX9_nextOrder_37 : decode cX9_nextOrder 37 = .ok (.iload_n 1, 1) := by decide +kernel
theorem dX9_nextOrder_38 : decode cX9_nextOrder 38 = .ok (.iconst 1, 1) := by decide +kernel
theorem dX9_nextOrder_39 : decode cX9_nextOrder 39 = .ok (.isub, 1) := by decide +kernel
theorem dX9_nextOrder_40 : decode cX9_nextOrder 40 = .ok (.istore_n 3, 1) := by decide +kernel
theorem dX9_nextOrder_41 : decode cX9_nextOrder 41 = .ok (.aload_n 0, 1) := by decide +kernel
theorem dX9_nextOrder_42 : decode cX9_nextOrder 42 = .ok (.getfield 40, 3) := by decide +kernel
theorem dX9_nextOrder_45 : decode cX9_nextOrder 45 = .ok (.iload_n 3, 1) := by decide +kernel
theorem dX9_nextOrder_46 : decode cX9_nextOrder 46 = .ok (.iaload, 1) := by decide +kernel
theorem dX9_nextOrder_47 : decode cX9_nextOrder 47 = .ok (.aload_n 0, 1) := by decide +kernel
theorem dX9_nextOrder_48 : decode cX9_nextOrder 48 = .ok (.getfield 40, 3) := by decide +kernel
theorem dX9_nextOrder_51 : decode cX9_nextOrder 51 = .ok (.iload_n 2, 1) := by decide +kernel
theorem dX9_nextOrder_52 : decode cX9_nextOrder 52 = .ok (.iaload, 1) := by decide +kernel
theorem dX9_nextOrder_53 : decode cX9_nextOrder 53 = .ok (.if_icmp .ge 9, 3) := by decide +kernel
theorem dX9_nextOrder_56 : decode cX9_nextOrder 56 = .ok (.iinc 3 (-1), 3) := by decide +kernel
theorem dX9_nextOrder_59 : decode cX9_nextOrder 59 = .ok (.goto (-18), 3) := by decide +kernel
theorem dX9_nextOrder_62 : decode cX9_nextOrder 62 = .ok (.aload_n 0, 1) := by decide +kernel
theorem dX9_nextOrder_63 : decode cX9_nextOrder 63 = .ok (.iload_n 2, 1) := by decide +kernel
theorem dX9_nextOrder_64 : decode cX9_nextOrder 64 = .ok (.iload_n 3, 1) := by decide +kernel
theorem dX9_nextOrder_65 : decode cX9_nextOrder 65 = .ok (.invokevirtual 235, 3) := by decide +kernel
theorem dX9_nextOrder_68 : decode cX9_nextOrder 68 = .ok (.iload_n 2, 1) := by decide +kernel
theorem dX9_nextOrder_69 : decode cX9_nextOrder 69 = .ok (.iconst 1, 1) := by decide +kernel
theorem dX9_nextOrder_70 : decode cX9_nextOrder 70 = .ok (.iadd, 1) := by decide +kernel
theorem dX9_nextOrder_71 : decode cX9_nextOrder 71 = .ok (.istore 4, 2) := by decide +kernel
theorem dX9_nextOrder_73 : decode cX9_nextOrder 73 = .ok (.iload_n 1, 1) := by decide +kernel
theorem dX9_nextOrder_74 : decode cX9_nextOrder 74 = .ok (.iconst 1, 1) := by decide +kernel
theorem dX9_nextOrder_75 : decode cX9_nextOrder 75 = .ok (.isub, 1) := by decide +kernel
theorem dX9_nextOrder_76 : decode cX9_nextOrder 76 = .ok (.istore 5, 2) := by decide +kernel
theorem dX9_nextOrder_78 : decode cX9_nextOrder 78 = .ok (.iload 5, 2) := by decide +kernel
theorem dX9_nextOrder_80 : decode cX9_nextOrder 80 = .ok (.iload 4, 2) := by decide +kernel
theorem dX9_nextOrder_82 : decode cX9_nextOrder 82 = .ok (.if_icmp .le 20, 3) := by decide +kernel
theorem dX9_nextOrder_85 : decode cX9_nextOrder 85 = .ok (.aload_n 0, 1) := by decide +kernel
theorem dX9_nextOrder_86 : decode cX9_nextOrder 86 = .ok (.iload 4, 2) := by decide +kernel
theorem dX9_nextOrder_88 : decode cX9_nextOrder 88 = .ok (.iload 5, 2) := by decide +kernel
theorem dX9_nextOrder_90 : decode cX9_nextOrder 90 = .ok (.invokevirtual 235, 3) := by decide +kernel
theorem dX9_nextOrder_93 : decode cX9_nextOrder 93 = .ok (.iinc 4 1, 3) := by decide +kernel
theorem dX9_nextOrder_96 : decode cX9_nextOrder 96 = .ok (.iinc 5 (-1), 3) := by decide +kernel
theorem dX9_nextOrder_99 : decode cX9_nextOrder 99 = .ok (.goto (-21), 3) := by decide +kernel
theorem dX9_nextOrder_102 : decode cX9_nextOrder 102 = .ok (.iconst 1, 1) := by decide +kernel
theorem dX9_nextOrder_103 : decode cX9_nextOrder 103 = .ok (.ireturn, 1) := by decide +kernel
theorem dX9_orderBy_0 : decode cX9_orderBy 0 = .ok (.iconst 0, 1) := by decide +kernel
theorem dX9_orderBy_1 : decode cX9_orderBy 1 = .ok (.istore 4, 2) := by decide +kernel
theorem dX9_orderBy_3 : decode cX9_orderBy 3 = .ok (.iload 4, 2) := by decide +kernel
theorem dX9_orderBy_5 : decode cX9_orderBy 5 = .ok (.iload_n 2, 1) := by decide +kernel
theorem dX9_orderBy_6 : decode cX9_orderBy 6 = .ok (.if_icmp .ge 68, 3) := by decide +kernel
theorem dX9_orderBy_9 : decode cX9_orderBy 9 = .ok (.aload_n 0, 1) := by decide +kernel
theorem dX9_orderBy_10 : decode cX9_orderBy 10 = .ok (.getfield 40, 3) := by decide +kernel
theorem dX9_orderBy_13 : decode cX9_orderBy 13 = .ok (.iload 4, 2) := by decide +kernel
theorem dX9_orderBy_15 : decode cX9_orderBy 15 = .ok (.iload 4, 2) := by decide +kernel
theorem dX9_orderBy_17 : decode cX9_orderBy 17 = .ok (.iastore, 1) := by decide +kernel
theorem dX9_orderBy_18 : decode cX9_orderBy 18 = .ok (.iconst 0, 1) := by decide +kernel
theorem dX9_orderBy_19 : decode cX9_orderBy 19 = .ok (.istore 5, 2) := by decide +kernel
theorem dX9_orderBy_21 : decode cX9_orderBy 21 = .ok (.iload 5, 2) := by decide +kernel
theorem dX9_orderBy_23 : decode cX9_orderBy 23 = .ok (.iload_n 2, 1) := by decide +kernel
theorem dX9_orderBy_24 : decode cX9_orderBy 24 = .ok (.if_icmp .ge 44, 3) := by decide +kernel
theorem dX9_orderBy_27 : decode cX9_orderBy 27 = .ok (.aload_n 0, 1) := by decide +kernel
theorem dX9_orderBy_28 : decode cX9_orderBy 28 = .ok (.getfield 37, 3) := by decide +kernel
theorem dX9_orderBy_31 : decode cX9_orderBy 31 = .ok (.bipush 6, 2) := by decide +kernel
theorem dX9_orderBy_33 : decode cX9_orderBy 33 = .ok (.iload 4, 2) := by decide +kernel
theorem dX9_orderBy_35 : decode cX9_orderBy 35 = .ok (.imul, 1) := by decide +kernel
theorem dX9_orderBy_36 : decode cX9_orderBy 36 = .ok (.iload 5, 2) := by decide +kernel
theorem dX9_orderBy_38 : decode cX9_orderBy 38 = .ok (.iadd, 1) := by decide +kernel
theorem dX9_orderBy_39 : decode cX9_orderBy 39 = .ok (.aload_n 0, 1) := by decide +kernel
theorem dX9_orderBy_40 : decode cX9_orderBy 40 = .ok (.aload_n 0, 1) := by decide +kernel
theorem dX9_orderBy_41 : decode cX9_orderBy 41 = .ok (.getfield 61, 3) := by decide +kernel
theorem dX9_orderBy_44 : decode cX9_orderBy 44 = .ok (.iload_n 1, 1) := by decide +kernel
theorem dX9_orderBy_45 : decode cX9_orderBy 45 = .ok (.iload 4, 2) := by decide +kernel
theorem dX9_orderBy_47 : decode cX9_orderBy 47 = .ok (.iadd, 1) := by decide +kernel
theorem dX9_orderBy_48 : decode cX9_orderBy 48 = .ok (.iaload, 1) := by decide +kernel
theorem dX9_orderBy_49 : decode cX9_orderBy 49 = .ok (.aload_n 0, 1) := by decide +kernel
theorem dX9_orderBy_50 : decode cX9_orderBy 50 = .ok (.getfield 61, 3) := by decide +kernel
theorem dX9_orderBy_53 : decode cX9_orderBy 53 = .ok (.iload_n 1, 1) := by decide +kernel
theorem dX9_orderBy_54 : decode cX9_orderBy 54 = .ok (.iload 5, 2) := by decide +kernel
theorem dX9_orderBy_56 : decode cX9_orderBy 56 = .ok (.iadd, 1) := by decide +kernel
theorem dX9_orderBy_57 : decode cX9_orderBy 57 = .ok (.iaload, 1) := by decide +kernel
theorem dX9_orderBy_58 : decode cX9_orderBy 58 = .ok (.invokevirtual 193, 3) := by decide +kernel
theorem dX9_orderBy_61 : decode cX9_orderBy 61 = .ok (.iastore, 1) := by decide +kernel
theorem dX9_orderBy_62 : decode cX9_orderBy 62 = .ok (.iinc 5 1, 3) := by decide +kernel
theorem dX9_orderBy_65 : decode cX9_orderBy 65 = .ok (.goto (-44), 3) := by decide +kernel
theorem dX9_orderBy_68 : decode cX9_orderBy 68 = .ok (.iinc 4 1, 3) := by decide +kernel
theorem dX9_orderBy_71 : decode cX9_orderBy 71 = .ok (.goto (-68), 3) := by decide +kernel
theorem dX9_orderBy_74 : decode cX9_orderBy 74 = .ok (.bipush (-9), 2) := by decide +kernel
theorem dX9_orderBy_76 : decode cX9_orderBy 76 = .ok (.istore 4, 2) := by decide +kernel
theorem dX9_orderBy_78 : decode cX9_orderBy 78 = .ok (.iconst 1, 1) := by decide +kernel
theorem dX9_orderBy_79 : decode cX9_orderBy 79 = .ok (.istore 5, 2) := by decide +kernel
theorem dX9_orderBy_81 : decode cX9_orderBy 81 = .ok (.iload 5, 2) := by decide +kernel
theorem dX9_orderBy_83 : decode cX9_orderBy 83 = .ok (.ifCond .eq 97, 3) := by decide +kernel
theorem dX9_orderBy_86 : decode cX9_orderBy 86 = .ok (.aload_n 0, 1) := by decide +kernel
theorem dX9_orderBy_87 : decode cX9_orderBy 87 = .ok (.iload_n 2, 1) := by decide +kernel
theorem dX9_orderBy_88 : decode cX9_orderBy 88 = .ok (.invokevirtual 238, 3) := by decide +kernel
theorem dX9_orderBy_91 : decode cX9_orderBy 91 = .ok (.istore 6, 2) := by decide +kernel
theorem dX9_orderBy_93 : decode cX9_orderBy 93 = .ok (.iload 4, 2) := by decide +kernel
theorem dX9_orderBy_95 : decode cX9_orderBy 95 = .ok (.ifCond .lt 10, 3) := by decide +kernel
theorem dX9_orderBy_98 : decode cX9_orderBy 98 = .ok (.iload 6, 2) := by decide +kernel
theorem dX9_orderBy_100 : decode cX9_orderBy 100 = .ok (.iload 4, 2) := by decide +kernel
theorem dX9_orderBy_102 : decode cX9_orderBy 102 = .ok (.if_icmp .ge 7, 3) := by decide +kernel
theorem dX9_orderBy_105 : decode cX9_orderBy 105 = .ok (.iconst 1, 1) := by decide +kernel
theorem dX9_orderBy_106 : decode cX9_orderBy 106 = .ok (.goto 4, 3) := by decide +kernel
theorem dX9_orderBy_109 : decode cX9_orderBy 109 = .ok (.iconst 0, 1) := by decide +kernel
theorem dX9_orderBy_110 : decode cX9_orderBy 110 = .ok (.istore 7, 2) := by decide +kernel
theorem dX9_orderBy_112 : decode cX9_orderBy 112 = .ok (.iconst 0, 1) := by decide +kernel
theorem dX9_orderBy_113 : decode cX9_orderBy 113 = .ok (.istore 8, 2) := by decide +kernel
theorem dX9_orderBy_115 : decode cX9_orderBy 115 = .ok (.iload 8, 2) := by decide +kernel
theorem dX9_orderBy_117 : decode cX9_orderBy 117 = .ok (.iload_n 2, 1) := by decide +kernel
theorem dX9_orderBy_118 : decode cX9_orderBy 118 = .ok (.if_icmp .ge 38, 3) := by decide +kernel
theorem dX9_orderBy_121 : decode cX9_orderBy 121 = .ok (.aload_n 0, 1) := by decide +kernel
theorem dX9_orderBy_122 : decode cX9_orderBy 122 = .ok (.getfield 43, 3) := by decide +kernel
theorem dX9_orderBy_125 : decode cX9_orderBy 125 = .ok (.iload 8, 2) := by decide +kernel
theorem dX9_orderBy_127 : decode cX9_orderBy 127 = .ok (.iload 7, 2) := by decide +kernel
theorem dX9_orderBy_129 : decode cX9_orderBy 129 = .ok (.ifCond .eq 13, 3) := by decide +kernel
theorem dX9_orderBy_132 : decode cX9_orderBy 132 = .ok (.aload_n 0, 1) := by decide +kernel
theorem dX9_orderBy_133 : decode cX9_orderBy 133 = .ok (.getfield 40, 3) := by decide +kernel
theorem dX9_orderBy_136 : decode cX9_orderBy 136 = .ok (.iload 8, 2) := by decide +kernel
theorem dX9_orderBy_138 : decode cX9_orderBy 138 = .ok (.iaload, 1) := by decide +kernel
theorem dX9_orderBy_139 : decode cX9_orderBy 139 = .ok (.goto 10, 3) := by decide +kernel
theorem dX9_orderBy_142 : decode cX9_orderBy 142 = .ok (.aload_n 0, 1) := by decide +kernel
theorem dX9_orderBy_143 : decode cX9_orderBy 143 = .ok (.getfield 43, 3) := by decide +kernel
theorem dX9_orderBy_146 : decode cX9_orderBy 146 = .ok (.iload 8, 2) := by decide +kernel
theorem dX9_orderBy_148 : decode cX9_orderBy 148 = .ok (.iaload, 1) := by decide +kernel
theorem dX9_orderBy_149 : decode cX9_orderBy 149 = .ok (.iastore, 1) := by decide +kernel
theorem dX9_orderBy_150 : decode cX9_orderBy 150 = .ok (.iinc 8 1, 3) := by decide +kernel
theorem dX9_orderBy_153 : decode cX9_orderBy 153 = .ok (.goto (-38), 3) := by decide +kernel
theorem dX9_orderBy_156 : decode cX9_orderBy 156 = .ok (.iload 7, 2) := by decide +kernel
theorem dX9_orderBy_158 : decode cX9_orderBy 158 = .ok (.ifCond .eq 8, 3) := by decide +kernel
theorem dX9_orderBy_161 : decode cX9_orderBy 161 = .ok (.iload 6, 2) := by decide +kernel
theorem dX9_orderBy_163 : decode cX9_orderBy 163 = .ok (.goto 5, 3) := by decide +kernel
theorem dX9_orderBy_166 : decode cX9_orderBy 166 = .ok (.iload 4, 2) := by decide +kernel
theorem dX9_orderBy_168 : decode cX9_orderBy 168 = .ok (.istore 4, 2) := by decide +kernel
theorem dX9_orderBy_170 : decode cX9_orderBy 170 = .ok (.aload_n 0, 1) := by decide +kernel
theorem dX9_orderBy_171 : decode cX9_orderBy 171 = .ok (.iload_n 2, 1) := by decide +kernel
theorem dX9_orderBy_172 : decode cX9_orderBy 172 = .ok (.invokevirtual 241, 3) := by decide +kernel
theorem dX9_orderBy_175 : decode cX9_orderBy 175 = .ok (.istore 5, 2) := by decide +kernel
theorem dX9_orderBy_177 : decode cX9_orderBy 177 = .ok (.goto (-96), 3) := by decide +kernel
theorem dX9_orderBy_180 : decode cX9_orderBy 180 = .ok (.iload_n 3, 1) := by decide +kernel
theorem dX9_orderBy_181 : decode cX9_orderBy 181 = .ok (.ifCond .ne 8, 3) := by decide +kernel
theorem dX9_orderBy_184 : decode cX9_orderBy 184 = .ok (.iload 4, 2) := by decide +kernel
theorem dX9_orderBy_186 : decode cX9_orderBy 186 = .ok (.goto 25, 3) := by decide +kernel
theorem dX9_orderBy_189 : decode cX9_orderBy 189 = .ok (.iload_n 3, 1) := by decide +kernel
theorem dX9_orderBy_190 : decode cX9_orderBy 190 = .ok (.bipush 10, 2) := by decide +kernel
theorem dX9_orderBy_192 : decode cX9_orderBy 192 = .ok (.isub, 1) := by decide +kernel
theorem dX9_orderBy_193 : decode cX9_orderBy 193 = .ok (.iload_n 2, 1) := by decide +kernel
theorem dX9_orderBy_194 : decode cX9_orderBy 194 = .ok (.if_icmp .ge 15, 3) := by decide +kernel
theorem dX9_orderBy_197 : decode cX9_orderBy 197 = .ok (.aload_n 0, 1) := by decide +kernel
theorem dX9_orderBy_198 : decode cX9_orderBy 198 = .ok (.getfield 43, 3) := by decide +kernel
theorem dX9_orderBy_201 : decode cX9_orderBy 201 = .ok (.iload_n 3, 1) := by decide +kernel
theorem dX9_orderBy_202 : decode cX9_orderBy 202 = .ok (.bipush 10, 2) := by decide +kernel
theorem dX9_orderBy_204 : decode cX9_orderBy 204 = .ok (.isub, 1) := by decide +kernel
theorem dX9_orderBy_205 : decode cX9_orderBy 205 = .ok (.iaload, 1) := by decide +kernel
theorem dX9_orderBy_206 : decode cX9_orderBy 206 = .ok (.goto 5, 3) := by decide +kernel
theorem dX9_orderBy_209 : decode cX9_orderBy 209 = .ok (.bipush (-9), 2) := by decide +kernel
theorem dX9_orderBy_211 : decode cX9_orderBy 211 = .ok (.ireturn, 1) := by decide +kernel
theorem dX9_order_0 : decode cX9_order 0 = .ok (.iload_n 1, 1) := by decide +kernel
theorem dX9_order_1 : decode cX9_order 1 = .ok (.invokestatic 113, 3) := by decide +kernel
theorem dX9_order_4 : decode cX9_order 4 = .ok (.ifCond .eq 9, 3) := by decide +kernel
theorem dX9_order_7 : decode cX9_order 7 = .ok (.aload_n 0, 1) := by decide +kernel
theorem dX9_order_8 : decode cX9_order 8 = .ok (.iconst (-1), 1) := by decide +kernel
theorem dX9_order_9 : decode cX9_order 9 = .ok (.invokevirtual 117, 3) := by decide +kernel
theorem dX9_order_12 : decode cX9_order 12 = .ok (.ireturn, 1) := by decide +kernel
theorem dX9_order_13 : decode cX9_order 13 = .ok (.iload_n 2, 1) := by decide +kernel
theorem dX9_order_14 : decode cX9_order 14 = .ok (.i2l, 1) := by decide +kernel
theorem dX9_order_15 : decode cX9_order 15 = .ok (.lconst 0, 1) := by decide +kernel
theorem dX9_order_16 : decode cX9_order 16 = .ok (.ldc2_w 120, 3) := by decide +kernel
theorem dX9_order_19 : decode cX9_order 19 = .ok (.invokestatic 80, 3) := by decide +kernel
theorem dX9_order_22 : decode cX9_order 22 = .ok (.ifCond .eq 36, 3) := by decide +kernel
theorem dX9_order_25 : decode cX9_order 25 = .ok (.iload 4, 2) := by decide +kernel
theorem dX9_order_27 : decode cX9_order 27 = .ok (.i2l, 1) := by decide +kernel
theorem dX9_order_28 : decode cX9_order 28 = .ok (.lconst 0, 1) := by decide +kernel
theorem dX9_order_29 : decode cX9_order 29 = .ok (.ldc2_w 169, 3) := by decide +kernel
theorem dX9_order_32 : decode cX9_order 32 = .ok (.invokestatic 80, 3) := by decide +kernel
theorem dX9_order_35 : decode cX9_order 35 = .ok (.ifCond .eq 23, 3) := by decide +kernel
theorem dX9_order_38 : decode cX9_order 38 = .ok (.iload 5, 2) := by decide +kernel
theorem dX9_order_40 : decode cX9_order 40 = .ok (.ifCond .eq 25, 3) := by decide +kernel
theorem dX9_order_43 : decode cX9_order 43 = .ok (.iload 5, 2) := by decide +kernel
theorem dX9_order_45 : decode cX9_order 45 = .ok (.i2l, 1) := by decide +kernel
theorem dX9_order_46 : decode cX9_order 46 = .ok (.ldc2_w 227, 3) := by decide +kernel
theorem dX9_order_49 : decode cX9_order 49 = .ok (.ldc2_w 244, 3) := by decide +kernel
theorem dX9_order_52 : decode cX9_order 52 = .ok (.invokestatic 80, 3) := by decide +kernel
theorem dX9_order_55 : decode cX9_order 55 = .ok (.ifCond .ne 10, 3) := by decide +kernel
theorem dX9_order_58 : decode cX9_order 58 = .ok (.aload_n 0, 1) := by decide +kernel
theorem dX9_order_59 : decode cX9_order 59 = .ok (.bipush (-2), 2) := by decide +kernel
theorem dX9_order_61 : decode cX9_order 61 = .ok (.invokevirtual 117, 3) := by decide +kernel
theorem dX9_order_64 : decode cX9_order 64 = .ok (.ireturn, 1) := by decide +kernel
theorem dX9_order_65 : decode cX9_order 65 = .ok (.aload_n 0, 1) := by decide +kernel
theorem dX9_order_66 : decode cX9_order 66 = .ok (.getfield 77, 3) := by decide +kernel
theorem dX9_order_69 : decode cX9_order 69 = .ok (.ifCond .ne 10, 3) := by decide +kernel
theorem dX9_order_72 : decode cX9_order 72 = .ok (.aload_n 0, 1) := by decide +kernel
theorem dX9_order_73 : decode cX9_order 73 = .ok (.bipush (-3), 2) := by decide +kernel
theorem dX9_order_75 : decode cX9_order 75 = .ok (.invokevirtual 117, 3) := by decide +kernel
theorem dX9_order_78 : decode cX9_order 78 = .ok (.ireturn, 1) := by decide +kernel
theorem dX9_order_79 : decode cX9_order 79 = .ok (.aload_n 0, 1) := by decide +kernel
theorem dX9_order_80 : decode cX9_order 80 = .ok (.iload_n 1, 1) := by decide +kernel
theorem dX9_order_81 : decode cX9_order 81 = .ok (.iload_n 2, 1) := by decide +kernel
theorem dX9_order_82 : decode cX9_order 82 = .ok (.iload_n 3, 1) := by decide +kernel
theorem dX9_order_83 : decode cX9_order 83 = .ok (.iload 4, 2) := by decide +kernel
theorem dX9_order_85 : decode cX9_order 85 = .ok (.i2l, 1) := by decide +kernel
theorem dX9_order_86 : decode cX9_order 86 = .ok (.invokevirtual 122, 3) := by decide +kernel
theorem dX9_order_89 : decode cX9_order 89 = .ok (.istore 6, 2) := by decide +kernel
theorem dX9_order_91 : decode cX9_order 91 = .ok (.iload 6, 2) := by decide +kernel
theorem dX9_order_93 : decode cX9_order 93 = .ok (.ifCond .ge 6, 3) := by decide +kernel
theorem dX9_order_96 : decode cX9_order 96 = .ok (.iload 6, 2) := by decide +kernel
theorem dX9_order_98 : decode cX9_order 98 = .ok (.ireturn, 1) := by decide +kernel
theorem dX9_order_99 : decode cX9_order 99 = .ok (.iconst 0, 1) := by decide +kernel
theorem dX9_order_100 : decode cX9_order 100 = .ok (.istore 7, 2) := by decide +kernel
theorem dX9_order_102 : decode cX9_order 102 = .ok (.iload 7, 2) := by decide +kernel
theorem dX9_order_104 : decode cX9_order 104 = .ok (.iload 4, 2) := by decide +kernel
theorem dX9_order_106 : decode cX9_order 106 = .ok (.if_icmp .ge 37, 3) := by decide +kernel
theorem dX9_order_109 : decode cX9_order 109 = .ok (.aload_n 0, 1) := by decide +kernel
theorem dX9_order_110 : decode cX9_order 110 = .ok (.aload_n 0, 1) := by decide +kernel
theorem dX9_order_111 : decode cX9_order 111 = .ok (.getfield 61, 3) := by decide +kernel
theorem dX9_order_114 : decode cX9_order 114 = .ok (.bipush 60, 2) := by decide +kernel
theorem dX9_order_116 : decode cX9_order 116 = .ok (.iload_n 1, 1) := by decide +kernel
theorem dX9_order_117 : decode cX9_order 117 = .ok (.imul, 1) := by decide +kernel
theorem dX9_order_118 : decode cX9_order 118 = .ok (.iload_n 3, 1) := by decide +kernel
theorem dX9_order_119 : decode cX9_order 119 = .ok (.iadd, 1) := by decide +kernel
theorem dX9_order_120 : decode cX9_order 120 = .ok (.iload 7, 2) := by decide +kernel
theorem dX9_order_122 : decode cX9_order 122 = .ok (.iadd, 1) := by decide +kernel
theorem dX9_order_123 : decode cX9_order 123 = .ok (.iaload, 1) := by decide +kernel
theorem dX9_order_124 : decode cX9_order 124 = .ok (.invokevirtual 185, 3) := by decide +kernel
theorem dX9_order_127 : decode cX9_order 127 = .ok (.ifCond .eq 10, 3) := by decide +kernel
theorem dX9_order_130 : decode cX9_order 130 = .ok (.aload_n 0, 1) := by decide +kernel
theorem dX9_order_131 : decode cX9_order 131 = .ok (.bipush (-2), 2) := by decide +kernel
theorem dX9_order_133 : decode cX9_order 133 = .ok (.invokevirtual 117, 3) := by decide +kernel
theorem dX9_order_136 : decode cX9_order 136 = .ok (.ireturn, 1) := by decide +kernel
theorem dX9_order_137 : decode cX9_order 137 = .ok (.iinc 7 1, 3) := by decide +kernel
theorem dX9_order_140 : decode cX9_order 140 = .ok (.goto (-38), 3) := by decide +kernel
theorem dX9_order_143 : decode cX9_order 143 = .ok (.aload_n 0, 1) := by decide +kernel
theorem dX9_order_144 : decode cX9_order 144 = .ok (.aload_n 0, 1) := by decide +kernel
theorem dX9_order_145 : decode cX9_order 145 = .ok (.bipush 60, 2) := by decide +kernel
theorem dX9_order_147 : decode cX9_order 147 = .ok (.iload_n 1, 1) := by decide +kernel
theorem dX9_order_148 : decode cX9_order 148 = .ok (.imul, 1) := by decide +kernel
theorem dX9_order_149 : decode cX9_order 149 = .ok (.iload_n 3, 1) := by decide +kernel
theorem dX9_order_150 : decode cX9_order 150 = .ok (.iadd, 1) := by decide +kernel
theorem dX9_order_151 : decode cX9_order 151 = .ok (.iload 4, 2) := by decide +kernel
theorem dX9_order_153 : decode cX9_order 153 = .ok (.iload 5, 2) := by decide +kernel
theorem dX9_order_155 : decode cX9_order 155 = .ok (.invokevirtual 246, 3) := by decide +kernel
theorem dX9_order_158 : decode cX9_order 158 = .ok (.invokevirtual 117, 3) := by decide +kernel
theorem dX9_order_161 : decode cX9_order 161 = .ok (.ireturn, 1) := by decide +kernel
theorem dX9_reading_0 : decode cX9_reading 0 = .ok (.aload_n 0, 1) := by decide +kernel
theorem dX9_reading_1 : decode cX9_reading 1 = .ok (.iload_n 1, 1) := by decide +kernel
theorem dX9_reading_2 : decode cX9_reading 2 = .ok (.invokevirtual 160, 3) := by decide +kernel
theorem dX9_reading_5 : decode cX9_reading 5 = .ok (.ifCond .eq 5, 3) := by decide +kernel
theorem dX9_reading_8 : decode cX9_reading 8 = .ok (.iconst (-1), 1) := by decide +kernel
theorem dX9_reading_9 : decode cX9_reading 9 = .ok (.ireturn, 1) := by decide +kernel
theorem dX9_reading_10 : decode cX9_reading 10 = .ok (.iload_n 2, 1) := by decide +kernel
theorem dX9_reading_11 : decode cX9_reading 11 = .ok (.i2l, 1) := by decide +kernel
theorem dX9_reading_12 : decode cX9_reading 12 = .ok (.lconst 0, 1) := by decide +kernel
theorem dX9_reading_13 : decode cX9_reading 13 = .ok (.ldc2_w 176, 3) := by decide +kernel
theorem dX9_reading_16 : decode cX9_reading 16 = .ok (.invokestatic 80, 3) := by decide +kernel
theorem dX9_reading_19 : decode cX9_reading 19 = .ok (.ifCond .eq 15, 3) := by decide +kernel
theorem dX9_reading_22 : decode cX9_reading 22 = .ok (.iload_n 3, 1) := by decide +kernel
theorem dX9_reading_23 : decode cX9_reading 23 = .ok (.i2l, 1) := by decide +kernel
theorem dX9_reading_24 : decode cX9_reading 24 = .ok (.lconst 0, 1) := by decide +kernel
theorem dX9_reading_25 : decode cX9_reading 25 = .ok (.ldc2_w 171, 3) := by decide +kernel
theorem dX9_reading_28 : decode cX9_reading 28 = .ok (.invokestatic 80, 3) := by decide +kernel
theorem dX9_reading_31 : decode cX9_reading 31 = .ok (.ifCond .ne 6, 3) := by decide +kernel
theorem dX9_reading_34 : decode cX9_reading 34 = .ok (.bipush (-2), 2) := by decide +kernel
theorem dX9_reading_36 : decode cX9_reading 36 = .ok (.ireturn, 1) := by decide +kernel
theorem dX9_reading_37 : decode cX9_reading 37 = .ok (.aload_n 0, 1) := by decide +kernel
theorem dX9_reading_38 : decode cX9_reading 38 = .ok (.getfield 135, 3) := by decide +kernel
theorem dX9_reading_41 : decode cX9_reading 41 = .ok (.bipush 8, 2) := by decide +kernel
theorem dX9_reading_43 : decode cX9_reading 43 = .ok (.if_icmp .ne 6, 3) := by decide +kernel
theorem dX9_reading_46 : decode cX9_reading 46 = .ok (.bipush (-4), 2) := by decide +kernel
theorem dX9_reading_48 : decode cX9_reading 48 = .ok (.ireturn, 1) := by decide +kernel
theorem dX9_reading_49 : decode cX9_reading 49 = .ok (.aload_n 0, 1) := by decide +kernel
theorem dX9_reading_50 : decode cX9_reading 50 = .ok (.getfield 46, 3) := by decide +kernel
theorem dX9_reading_53 : decode cX9_reading 53 = .ok (.aload_n 0, 1) := by decide +kernel
theorem dX9_reading_54 : decode cX9_reading 54 = .ok (.getfield 135, 3) := by decide +kernel
theorem dX9_reading_57 : decode cX9_reading 57 = .ok (.iload_n 1, 1) := by decide +kernel
theorem dX9_reading_58 : decode cX9_reading 58 = .ok (.iastore, 1) := by decide +kernel
theorem dX9_reading_59 : decode cX9_reading 59 = .ok (.aload_n 0, 1) := by decide +kernel
theorem dX9_reading_60 : decode cX9_reading 60 = .ok (.getfield 49, 3) := by decide +kernel
theorem dX9_reading_63 : decode cX9_reading 63 = .ok (.aload_n 0, 1) := by decide +kernel
theorem dX9_reading_64 : decode cX9_reading 64 = .ok (.getfield 135, 3) := by decide +kernel
theorem dX9_reading_67 : decode cX9_reading 67 = .ok (.iload_n 2, 1) := by decide +kernel
theorem dX9_reading_68 : decode cX9_reading 68 = .ok (.iastore, 1) := by decide +kernel
theorem dX9_reading_69 : decode cX9_reading 69 = .ok (.aload_n 0, 1) := by decide +kernel
theorem dX9_reading_70 : decode cX9_reading 70 = .ok (.getfield 52, 3) := by decide +kernel
theorem dX9_reading_73 : decode cX9_reading 73 = .ok (.aload_n 0, 1) := by decide +kernel
theorem dX9_reading_74 : decode cX9_reading 74 = .ok (.getfield 135, 3) := by decide +kernel
theorem dX9_reading_77 : decode cX9_reading 77 = .ok (.iload_n 3, 1) := by decide +kernel
theorem dX9_reading_78 : decode cX9_reading 78 = .ok (.iastore, 1) := by decide +kernel
theorem dX9_reading_79 : decode cX9_reading 79 = .ok (.aload_n 0, 1) := by decide +kernel
theorem dX9_reading_80 : decode cX9_reading 80 = .ok (.dup, 1) := by decide +kernel
theorem dX9_reading_81 : decode cX9_reading 81 = .ok (.getfield 135, 3) := by decide +kernel
theorem dX9_reading_84 : decode cX9_reading 84 = .ok (.iconst 1, 1) := by decide +kernel
theorem dX9_reading_85 : decode cX9_reading 85 = .ok (.iadd, 1) := by decide +kernel
theorem dX9_reading_86 : decode cX9_reading 86 = .ok (.putfield 135, 3) := by decide +kernel
theorem dX9_reading_89 : decode cX9_reading 89 = .ok (.aload_n 0, 1) := by decide +kernel
theorem dX9_reading_90 : decode cX9_reading 90 = .ok (.getfield 135, 3) := by decide +kernel
theorem dX9_reading_93 : decode cX9_reading 93 = .ok (.iconst 1, 1) := by decide +kernel
theorem dX9_reading_94 : decode cX9_reading 94 = .ok (.isub, 1) := by decide +kernel
theorem dX9_reading_95 : decode cX9_reading 95 = .ok (.ireturn, 1) := by decide +kernel
theorem dX9_back_0 : decode cX9_back 0 = .ok (.iload_n 1, 1) := by decide +kernel
theorem dX9_back_1 : decode cX9_back 1 = .ok (.i2l, 1) := by decide +kernel
theorem dX9_back_2 : decode cX9_back 2 = .ok (.lconst 0, 1) := by decide +kernel
theorem dX9_back_3 : decode cX9_back 3 = .ok (.aload_n 0, 1) := by decide +kernel
theorem dX9_back_4 : decode cX9_back 4 = .ok (.getfield 135, 3) := by decide +kernel
theorem dX9_back_7 : decode cX9_back 7 = .ok (.i2l, 1) := by decide +kernel
theorem dX9_back_8 : decode cX9_back 8 = .ok (.invokestatic 80, 3) := by decide +kernel
theorem dX9_back_11 : decode cX9_back 11 = .ok (.ifCond .ne 6, 3) := by decide +kernel
theorem dX9_back_14 : decode cX9_back 14 = .ok (.bipush (-2), 2) := by decide +kernel
theorem dX9_back_16 : decode cX9_back 16 = .ok (.ireturn, 1) := by decide +kernel
theorem dX9_back_17 : decode cX9_back 17 = .ok (.aload_n 0, 1) := by decide +kernel
theorem dX9_back_18 : decode cX9_back 18 = .ok (.dup, 1) := by decide +kernel
theorem dX9_back_19 : decode cX9_back 19 = .ok (.getfield 135, 3) := by decide +kernel
theorem dX9_back_22 : decode cX9_back 22 = .ok (.iload_n 1, 1) := by decide +kernel
theorem dX9_back_23 : decode cX9_back 23 = .ok (.isub, 1) := by decide +kernel
theorem dX9_back_24 : decode cX9_back 24 = .ok (.putfield 135, 3) := by decide +kernel
theorem dX9_back_27 : decode cX9_back 27 = .ok (.aload_n 0, 1) := by decide +kernel
theorem dX9_back_28 : decode cX9_back 28 = .ok (.getfield 135, 3) := by decide +kernel
theorem dX9_back_31 : decode cX9_back 31 = .ok (.ireturn, 1) := by decide +kernel
theorem dX9_areSo_0 : decode cX9_areSo 0 = .ok (.iconst 1, 1) := by decide +kernel
theorem dX9_areSo_1 : decode cX9_areSo 1 = .ok (.istore_n 1, 1) := by decide +kernel
end
section
theorem dX9_areSo_2 : decode cX9_areSo 2 = .ok (.iconst 0, 1) := by decide +kernel
theorem dX9_areSo_3 : decode cX9_areSo 3 = .ok (.istore_n 2, 1) := by decide +kernel
theorem dX9_areSo_4 : decode cX9_areSo 4 = .ok (.iload_n 2, 1) := by decide +kernel
theorem dX9_areSo_5 : decode cX9_areSo 5 = .ok (.aload_n 0, 1) := by decide +kernel
theorem dX9_areSo_6 : decode cX9_areSo 6 = .ok (.getfield 135, 3) := by decide +kernel
theorem dX9_areSo_9 : decode cX9_areSo 9 = .ok (.if_icmp .ge 44, 3) := by decide +kernel
theorem dX9_areSo_12 : decode cX9_areSo 12 = .ok (.iload_n 1, 1) := by decide +kernel
theorem dX9_areSo_13 : decode cX9_areSo 13 = .ok (.ifCond .eq 32, 3) := by decide +kernel
theorem dX9_areSo_16 : decode cX9_areSo 16 = .ok (.aload_n 0, 1) := by decide +kernel
theorem dX9_areSo_17 : decode cX9_areSo 17 = .ok (.aload_n 0, 1) := by decide +kernel
theorem dX9_areSo_18 : decode cX9_areSo 18 = .ok (.getfield 46, 3) := by decide +kernel
theorem dX9_areSo_21 : decode cX9_areSo 21 = .ok (.iload_n 2, 1) := by decide +kernel
theorem dX9_areSo_22 : decode cX9_areSo 22 = .ok (.iaload, 1) := by decide +kernel
theorem dX9_areSo_23 : decode cX9_areSo 23 = .ok (.aload_n 0, 1) := by decide +kernel
theorem dX9_areSo_24 : decode cX9_areSo 24 = .ok (.getfield 49, 3) := by decide +kernel
theorem dX9_areSo_27 : decode cX9_areSo 27 = .ok (.iload_n 2, 1) := by decide +kernel
theorem dX9_areSo_28 : decode cX9_areSo 28 = .ok (.iaload, 1) := by decide +kernel
theorem dX9_areSo_29 : decode cX9_areSo 29 = .ok (.invokevirtual 157, 3) := by decide +kernel
theorem dX9_areSo_32 : decode cX9_areSo 32 = .ok (.aload_n 0, 1) := by decide +kernel
theorem dX9_areSo_33 : decode cX9_areSo 33 = .ok (.getfield 52, 3) := by decide +kernel
theorem dX9_areSo_36 : decode cX9_areSo 36 = .ok (.iload_n 2, 1) := by decide +kernel
theorem dX9_areSo_37 : decode cX9_areSo 37 = .ok (.iaload, 1) := by decide +kernel
theorem dX9_areSo_38 : decode cX9_areSo 38 = .ok (.if_icmp .ne 7, 3) := by decide +kernel
theorem dX9_areSo_41 : decode cX9_areSo 41 = .ok (.iconst 1, 1) := by decide +kernel
theorem dX9_areSo_42 : decode cX9_areSo 42 = .ok (.goto 4, 3) := by decide +kernel
theorem dX9_areSo_45 : decode cX9_areSo 45 = .ok (.iconst 0, 1) := by decide +kernel
theorem dX9_areSo_46 : decode cX9_areSo 46 = .ok (.istore_n 1, 1) := by decide +kernel
theorem dX9_areSo_47 : decode cX9_areSo 47 = .ok (.iinc 2 1, 3) := by decide +kernel
theorem dX9_areSo_50 : decode cX9_areSo 50 = .ok (.goto (-46), 3) := by decide +kernel
theorem dX9_areSo_53 : decode cX9_areSo 53 = .ok (.iload_n 1, 1) := by decide +kernel
theorem dX9_areSo_54 : decode cX9_areSo 54 = .ok (.ireturn, 1) := by decide +kernel
theorem dX9_deadsOf_0 : decode cX9_deadsOf 0 = .ok (.aload_n 0, 1) := by decide +kernel
theorem dX9_deadsOf_1 : decode cX9_deadsOf 1 = .ok (.getfield 13, 3) := by decide +kernel
theorem dX9_deadsOf_4 : decode cX9_deadsOf 4 = .ok (.iload_n 1, 1) := by decide +kernel
theorem dX9_deadsOf_5 : decode cX9_deadsOf 5 = .ok (.iaload, 1) := by decide +kernel
theorem dX9_deadsOf_6 : decode cX9_deadsOf 6 = .ok (.istore_n 3, 1) := by decide +kernel
theorem dX9_deadsOf_7 : decode cX9_deadsOf 7 = .ok (.iconst 0, 1) := by decide +kernel
theorem dX9_deadsOf_8 : decode cX9_deadsOf 8 = .ok (.istore 4, 2) := by decide +kernel
theorem dX9_deadsOf_10 : decode cX9_deadsOf 10 = .ok (.bipush 127, 2) := by decide +kernel
theorem dX9_deadsOf_12 : decode cX9_deadsOf 12 = .ok (.istore 5, 2) := by decide +kernel
theorem dX9_deadsOf_14 : decode cX9_deadsOf 14 = .ok (.iconst 0, 1) := by decide +kernel
theorem dX9_deadsOf_15 : decode cX9_deadsOf 15 = .ok (.istore 6, 2) := by decide +kernel
theorem dX9_deadsOf_17 : decode cX9_deadsOf 17 = .ok (.bipush (-9), 2) := by decide +kernel
theorem dX9_deadsOf_19 : decode cX9_deadsOf 19 = .ok (.istore 7, 2) := by decide +kernel
theorem dX9_deadsOf_21 : decode cX9_deadsOf 21 = .ok (.iconst 0, 1) := by decide +kernel
theorem dX9_deadsOf_22 : decode cX9_deadsOf 22 = .ok (.istore 8, 2) := by decide +kernel
theorem dX9_deadsOf_24 : decode cX9_deadsOf 24 = .ok (.iload 8, 2) := by decide +kernel
theorem dX9_deadsOf_26 : decode cX9_deadsOf 26 = .ok (.bipush 127, 2) := by decide +kernel
theorem dX9_deadsOf_28 : decode cX9_deadsOf 28 = .ok (.if_icmp .gt 55, 3) := by decide +kernel
theorem dX9_deadsOf_31 : decode cX9_deadsOf 31 = .ok (.aload_n 0, 1) := by decide +kernel
theorem dX9_deadsOf_32 : decode cX9_deadsOf 32 = .ok (.getfield 13, 3) := by decide +kernel
theorem dX9_deadsOf_35 : decode cX9_deadsOf 35 = .ok (.iload_n 1, 1) := by decide +kernel
theorem dX9_deadsOf_36 : decode cX9_deadsOf 36 = .ok (.iload 8, 2) := by decide +kernel
theorem dX9_deadsOf_38 : decode cX9_deadsOf 38 = .ok (.iastore, 1) := by decide +kernel
theorem dX9_deadsOf_39 : decode cX9_deadsOf 39 = .ok (.aload_n 0, 1) := by decide +kernel
theorem dX9_deadsOf_40 : decode cX9_deadsOf 40 = .ok (.invokevirtual 249, 3) := by decide +kernel
theorem dX9_deadsOf_43 : decode cX9_deadsOf 43 = .ok (.ifCond .eq 34, 3) := by decide +kernel
theorem dX9_deadsOf_46 : decode cX9_deadsOf 46 = .ok (.iinc 4 1, 3) := by decide +kernel
theorem dX9_deadsOf_49 : decode cX9_deadsOf 49 = .ok (.iload 5, 2) := by decide +kernel
theorem dX9_deadsOf_51 : decode cX9_deadsOf 51 = .ok (.iload 8, 2) := by decide +kernel
theorem dX9_deadsOf_53 : decode cX9_deadsOf 53 = .ok (.iand, 1) := by decide +kernel
theorem dX9_deadsOf_54 : decode cX9_deadsOf 54 = .ok (.istore 5, 2) := by decide +kernel
theorem dX9_deadsOf_56 : decode cX9_deadsOf 56 = .ok (.iload 6, 2) := by decide +kernel
theorem dX9_deadsOf_58 : decode cX9_deadsOf 58 = .ok (.iload 8, 2) := by decide +kernel
theorem dX9_deadsOf_60 : decode cX9_deadsOf 60 = .ok (.ior, 1) := by decide +kernel
theorem dX9_deadsOf_61 : decode cX9_deadsOf 61 = .ok (.istore 6, 2) := by decide +kernel
theorem dX9_deadsOf_63 : decode cX9_deadsOf 63 = .ok (.iload 7, 2) := by decide +kernel
theorem dX9_deadsOf_65 : decode cX9_deadsOf 65 = .ok (.ifCond .ge 8, 3) := by decide +kernel
theorem dX9_deadsOf_68 : decode cX9_deadsOf 68 = .ok (.iload 8, 2) := by decide +kernel
theorem dX9_deadsOf_70 : decode cX9_deadsOf 70 = .ok (.goto 5, 3) := by decide +kernel
theorem dX9_deadsOf_73 : decode cX9_deadsOf 73 = .ok (.iload 7, 2) := by decide +kernel
theorem dX9_deadsOf_75 : decode cX9_deadsOf 75 = .ok (.istore 7, 2) := by decide +kernel
theorem dX9_deadsOf_77 : decode cX9_deadsOf 77 = .ok (.iinc 8 1, 3) := by decide +kernel
theorem dX9_deadsOf_80 : decode cX9_deadsOf 80 = .ok (.goto (-56), 3) := by decide +kernel
theorem dX9_deadsOf_83 : decode cX9_deadsOf 83 = .ok (.aload_n 0, 1) := by decide +kernel
theorem dX9_deadsOf_84 : decode cX9_deadsOf 84 = .ok (.getfield 13, 3) := by decide +kernel
theorem dX9_deadsOf_87 : decode cX9_deadsOf 87 = .ok (.iload_n 1, 1) := by decide +kernel
theorem dX9_deadsOf_88 : decode cX9_deadsOf 88 = .ok (.iload_n 3, 1) := by decide +kernel
theorem dX9_deadsOf_89 : decode cX9_deadsOf 89 = .ok (.iastore, 1) := by decide +kernel
theorem dX9_deadsOf_90 : decode cX9_deadsOf 90 = .ok (.iload_n 2, 1) := by decide +kernel
theorem dX9_deadsOf_91 : decode cX9_deadsOf 91 = .ok (.ifCond .ne 8, 3) := by decide +kernel
theorem dX9_deadsOf_94 : decode cX9_deadsOf 94 = .ok (.iload 4, 2) := by decide +kernel
theorem dX9_deadsOf_96 : decode cX9_deadsOf 96 = .ok (.goto 35, 3) := by decide +kernel
theorem dX9_deadsOf_99 : decode cX9_deadsOf 99 = .ok (.iload 4, 2) := by decide +kernel
theorem dX9_deadsOf_101 : decode cX9_deadsOf 101 = .ok (.ifCond .ne 8, 3) := by decide +kernel
theorem dX9_deadsOf_104 : decode cX9_deadsOf 104 = .ok (.bipush (-9), 2) := by decide +kernel
theorem dX9_deadsOf_106 : decode cX9_deadsOf 106 = .ok (.goto 25, 3) := by decide +kernel
theorem dX9_deadsOf_109 : decode cX9_deadsOf 109 = .ok (.iload_n 2, 1) := by decide +kernel
theorem dX9_deadsOf_110 : decode cX9_deadsOf 110 = .ok (.iconst 1, 1) := by decide +kernel
theorem dX9_deadsOf_111 : decode cX9_deadsOf 111 = .ok (.if_icmp .ne 8, 3) := by decide +kernel
theorem dX9_deadsOf_114 : decode cX9_deadsOf 114 = .ok (.iload 5, 2) := by decide +kernel
theorem dX9_deadsOf_116 : decode cX9_deadsOf 116 = .ok (.goto 15, 3) := by decide +kernel
theorem dX9_deadsOf_119 : decode cX9_deadsOf 119 = .ok (.iload_n 2, 1) := by decide +kernel
theorem dX9_deadsOf_120 : decode cX9_deadsOf 120 = .ok (.iconst 2, 1) := by decide +kernel
theorem dX9_deadsOf_121 : decode cX9_deadsOf 121 = .ok (.if_icmp .ne 8, 3) := by decide +kernel
theorem dX9_deadsOf_124 : decode cX9_deadsOf 124 = .ok (.iload 6, 2) := by decide +kernel
theorem dX9_deadsOf_126 : decode cX9_deadsOf 126 = .ok (.goto 5, 3) := by decide +kernel
theorem dX9_deadsOf_129 : decode cX9_deadsOf 129 = .ok (.iload 7, 2) := by decide +kernel
theorem dX9_deadsOf_131 : decode cX9_deadsOf 131 = .ok (.ireturn, 1) := by decide +kernel
theorem dX9_deads_0 : decode cX9_deads 0 = .ok (.aload_n 0, 1) := by decide +kernel
theorem dX9_deads_1 : decode cX9_deads 1 = .ok (.iload_n 1, 1) := by decide +kernel
theorem dX9_deads_2 : decode cX9_deads 2 = .ok (.invokevirtual 160, 3) := by decide +kernel
theorem dX9_deads_5 : decode cX9_deads 5 = .ok (.ifCond .eq 5, 3) := by decide +kernel
theorem dX9_deads_8 : decode cX9_deads 8 = .ok (.iconst (-1), 1) := by decide +kernel
theorem dX9_deads_9 : decode cX9_deads 9 = .ok (.ireturn, 1) := by decide +kernel
theorem dX9_deads_10 : decode cX9_deads 10 = .ok (.iload_n 2, 1) := by decide +kernel
theorem dX9_deads_11 : decode cX9_deads 11 = .ok (.i2l, 1) := by decide +kernel
theorem dX9_deads_12 : decode cX9_deads 12 = .ok (.lconst 0, 1) := by decide +kernel
theorem dX9_deads_13 : decode cX9_deads 13 = .ok (.ldc2_w 253, 3) := by decide +kernel
theorem dX9_deads_16 : decode cX9_deads 16 = .ok (.invokestatic 80, 3) := by decide +kernel
theorem dX9_deads_19 : decode cX9_deads 19 = .ok (.ifCond .eq 12, 3) := by decide +kernel
theorem dX9_deads_22 : decode cX9_deads 22 = .ok (.aload_n 0, 1) := by decide +kernel
theorem dX9_deads_23 : decode cX9_deads 23 = .ok (.iload_n 1, 1) := by decide +kernel
theorem dX9_deads_24 : decode cX9_deads 24 = .ok (.iload_n 2, 1) := by decide +kernel
theorem dX9_deads_25 : decode cX9_deads 25 = .ok (.invokevirtual 255, 3) := by decide +kernel
theorem dX9_deads_28 : decode cX9_deads 28 = .ok (.goto 5, 3) := by decide +kernel
theorem dX9_deads_31 : decode cX9_deads 31 = .ok (.bipush (-2), 2) := by decide +kernel
theorem dX9_deads_33 : decode cX9_deads 33 = .ok (.ireturn, 1) := by decide +kernel
theorem dX9_kinds_0 : decode cX9_kinds 0 = .ok (.aload_n 0, 1) := by decide +kernel
theorem dX9_kinds_1 : decode cX9_kinds 1 = .ok (.iload_n 1, 1) := by decide +kernel
theorem dX9_kinds_2 : decode cX9_kinds 2 = .ok (.invokevirtual 160, 3) := by decide +kernel
theorem dX9_kinds_5 : decode cX9_kinds 5 = .ok (.ifCond .eq 5, 3) := by decide +kernel
theorem dX9_kinds_8 : decode cX9_kinds 8 = .ok (.iconst (-1), 1) := by decide +kernel
theorem dX9_kinds_9 : decode cX9_kinds 9 = .ok (.ireturn, 1) := by decide +kernel
theorem dX9_kinds_10 : decode cX9_kinds 10 = .ok (.aload_n 0, 1) := by decide +kernel
theorem dX9_kinds_11 : decode cX9_kinds 11 = .ok (.getfield 7, 3) := by decide +kernel
theorem dX9_kinds_14 : decode cX9_kinds 14 = .ok (.iload_n 1, 1) := by decide +kernel
theorem dX9_kinds_15 : decode cX9_kinds 15 = .ok (.iaload, 1) := by decide +kernel
theorem dX9_kinds_16 : decode cX9_kinds 16 = .ok (.istore_n 2, 1) := by decide +kernel
theorem dX9_kinds_17 : decode cX9_kinds 17 = .ok (.iconst 0, 1) := by decide +kernel
theorem dX9_kinds_18 : decode cX9_kinds 18 = .ok (.istore_n 3, 1) := by decide +kernel
theorem dX9_kinds_19 : decode cX9_kinds 19 = .ok (.iconst 0, 1) := by decide +kernel
theorem dX9_kinds_20 : decode cX9_kinds 20 = .ok (.istore 4, 2) := by decide +kernel
theorem dX9_kinds_22 : decode cX9_kinds 22 = .ok (.iload 4, 2) := by decide +kernel
theorem dX9_kinds_24 : decode cX9_kinds 24 = .ok (.iconst 3, 1) := by decide +kernel
theorem dX9_kinds_25 : decode cX9_kinds 25 = .ok (.if_icmp .ge 35, 3) := by decide +kernel
theorem dX9_kinds_28 : decode cX9_kinds 28 = .ok (.aload_n 0, 1) := by decide +kernel
theorem dX9_kinds_29 : decode cX9_kinds 29 = .ok (.getfield 7, 3) := by decide +kernel
theorem dX9_kinds_32 : decode cX9_kinds 32 = .ok (.iload_n 1, 1) := by decide +kernel
theorem dX9_kinds_33 : decode cX9_kinds 33 = .ok (.iload 4, 2) := by decide +kernel
theorem dX9_kinds_35 : decode cX9_kinds 35 = .ok (.iastore, 1) := by decide +kernel
theorem dX9_kinds_36 : decode cX9_kinds 36 = .ok (.iload_n 3, 1) := by decide +kernel
theorem dX9_kinds_37 : decode cX9_kinds 37 = .ok (.aload_n 0, 1) := by decide +kernel
theorem dX9_kinds_38 : decode cX9_kinds 38 = .ok (.invokevirtual 249, 3) := by decide +kernel
theorem dX9_kinds_41 : decode cX9_kinds 41 = .ok (.ifCond .eq 10, 3) := by decide +kernel
theorem dX9_kinds_44 : decode cX9_kinds 44 = .ok (.iconst 1, 1) := by decide +kernel
theorem dX9_kinds_45 : decode cX9_kinds 45 = .ok (.iload 4, 2) := by decide +kernel
theorem dX9_kinds_47 : decode cX9_kinds 47 = .ok (.ishl, 1) := by decide +kernel
theorem dX9_kinds_48 : decode cX9_kinds 48 = .ok (.goto 4, 3) := by decide +kernel
theorem dX9_kinds_51 : decode cX9_kinds 51 = .ok (.iconst 0, 1) := by decide +kernel
theorem dX9_kinds_52 : decode cX9_kinds 52 = .ok (.ior, 1) := by decide +kernel
theorem dX9_kinds_53 : decode cX9_kinds 53 = .ok (.istore_n 3, 1) := by decide +kernel
theorem dX9_kinds_54 : decode cX9_kinds 54 = .ok (.iinc 4 1, 3) := by decide +kernel
theorem dX9_kinds_57 : decode cX9_kinds 57 = .ok (.goto (-35), 3) := by decide +kernel
theorem dX9_kinds_60 : decode cX9_kinds 60 = .ok (.aload_n 0, 1) := by decide +kernel
theorem dX9_kinds_61 : decode cX9_kinds 61 = .ok (.getfield 7, 3) := by decide +kernel
theorem dX9_kinds_64 : decode cX9_kinds 64 = .ok (.iload_n 1, 1) := by decide +kernel
theorem dX9_kinds_65 : decode cX9_kinds 65 = .ok (.iload_n 2, 1) := by decide +kernel
theorem dX9_kinds_66 : decode cX9_kinds 66 = .ok (.iastore, 1) := by decide +kernel
theorem dX9_kinds_67 : decode cX9_kinds 67 = .ok (.iload_n 3, 1) := by decide +kernel
theorem dX9_kinds_68 : decode cX9_kinds 68 = .ok (.ireturn, 1) := by decide +kernel
theorem dX9_odds_0 : decode cX9_odds 0 = .ok (.iload_n 1, 1) := by decide +kernel
theorem dX9_odds_1 : decode cX9_odds 1 = .ok (.i2l, 1) := by decide +kernel
theorem dX9_odds_2 : decode cX9_odds 2 = .ok (.lconst 0, 1) := by decide +kernel
theorem dX9_odds_3 : decode cX9_odds 3 = .ok (.lconst 1, 1) := by decide +kernel
theorem dX9_odds_4 : decode cX9_odds 4 = .ok (.invokestatic 80, 3) := by decide +kernel
theorem dX9_odds_7 : decode cX9_odds 7 = .ok (.ifCond .eq 10, 3) := by decide +kernel
theorem dX9_odds_10 : decode cX9_odds 10 = .ok (.aload_n 0, 1) := by decide +kernel
theorem dX9_odds_11 : decode cX9_odds 11 = .ok (.getfield 77, 3) := by decide +kernel
theorem dX9_odds_14 : decode cX9_odds 14 = .ok (.ifCond .ne 7, 3) := by decide +kernel
theorem dX9_odds_17 : decode cX9_odds 17 = .ok (.invokestatic 73, 3) := by decide +kernel
theorem dX9_odds_20 : decode cX9_odds 20 = .ok (.lreturn, 1) := by decide +kernel
theorem dX9_odds_21 : decode cX9_odds 21 = .ok (.lconst 1, 1) := by decide +kernel
theorem dX9_odds_22 : decode cX9_odds 22 = .ok (.lstore_n 2, 1) := by decide +kernel
theorem dX9_odds_23 : decode cX9_odds 23 = .ok (.iconst 0, 1) := by decide +kernel
theorem dX9_odds_24 : decode cX9_odds 24 = .ok (.istore 4, 2) := by decide +kernel
theorem dX9_odds_26 : decode cX9_odds 26 = .ok (.iload 4, 2) := by decide +kernel
theorem dX9_odds_28 : decode cX9_odds 28 = .ok (.aload_n 0, 1) := by decide +kernel
theorem dX9_odds_29 : decode cX9_odds 29 = .ok (.getfield 77, 3) := by decide +kernel
theorem dX9_odds_32 : decode cX9_odds 32 = .ok (.if_icmp .ge 65, 3) := by decide +kernel
theorem dX9_odds_35 : decode cX9_odds 35 = .ok (.iconst 0, 1) := by decide +kernel
theorem dX9_odds_36 : decode cX9_odds 36 = .ok (.istore 5, 2) := by decide +kernel
theorem dX9_odds_38 : decode cX9_odds 38 = .ok (.iconst 0, 1) := by decide +kernel
theorem dX9_odds_39 : decode cX9_odds 39 = .ok (.istore 6, 2) := by decide +kernel
theorem dX9_odds_41 : decode cX9_odds 41 = .ok (.iload 6, 2) := by decide +kernel
theorem dX9_odds_43 : decode cX9_odds 43 = .ok (.bipush 10, 2) := by decide +kernel
theorem dX9_odds_45 : decode cX9_odds 45 = .ok (.if_icmp .ge 40, 3) := by decide +kernel
theorem dX9_odds_48 : decode cX9_odds 48 = .ok (.iload 5, 2) := by decide +kernel
theorem dX9_odds_50 : decode cX9_odds 50 = .ok (.aload_n 0, 1) := by decide +kernel
theorem dX9_odds_51 : decode cX9_odds 51 = .ok (.iload 4, 2) := by decide +kernel
theorem dX9_odds_53 : decode cX9_odds 53 = .ok (.aload_n 0, 1) := by decide +kernel
theorem dX9_odds_54 : decode cX9_odds 54 = .ok (.iload 4, 2) := by decide +kernel
theorem dX9_odds_56 : decode cX9_odds 56 = .ok (.iload 6, 2) := by decide +kernel
theorem dX9_odds_58 : decode cX9_odds 58 = .ok (.invokevirtual 157, 3) := by decide +kernel
theorem dX9_odds_61 : decode cX9_odds 61 = .ok (.invokevirtual 178, 3) := by decide +kernel
theorem dX9_odds_64 : decode cX9_odds 64 = .ok (.invokestatic 188, 3) := by decide +kernel
theorem dX9_odds_67 : decode cX9_odds 67 = .ok (.iconst 1, 1) := by decide +kernel
theorem dX9_odds_68 : decode cX9_odds 68 = .ok (.if_icmp .ne 7, 3) := by decide +kernel
theorem dX9_odds_71 : decode cX9_odds 71 = .ok (.iconst 1, 1) := by decide +kernel
theorem dX9_odds_72 : decode cX9_odds 72 = .ok (.goto 4, 3) := by decide +kernel
theorem dX9_odds_75 : decode cX9_odds 75 = .ok (.iconst 0, 1) := by decide +kernel
theorem dX9_odds_76 : decode cX9_odds 76 = .ok (.iadd, 1) := by decide +kernel
theorem dX9_odds_77 : decode cX9_odds 77 = .ok (.istore 5, 2) := by decide +kernel
theorem dX9_odds_79 : decode cX9_odds 79 = .ok (.iinc 6 1, 3) := by decide +kernel
theorem dX9_odds_82 : decode cX9_odds 82 = .ok (.goto (-41), 3) := by decide +kernel
theorem dX9_odds_85 : decode cX9_odds 85 = .ok (.lload_n 2, 1) := by decide +kernel
theorem dX9_odds_86 : decode cX9_odds 86 = .ok (.iload 5, 2) := by decide +kernel
theorem dX9_odds_88 : decode cX9_odds 88 = .ok (.i2l, 1) := by decide +kernel
theorem dX9_odds_89 : decode cX9_odds 89 = .ok (.lmul, 1) := by decide +kernel
theorem dX9_odds_90 : decode cX9_odds 90 = .ok (.lstore_n 2, 1) := by decide +kernel
theorem dX9_odds_91 : decode cX9_odds 91 = .ok (.iinc 4 1, 3) := by decide +kernel
theorem dX9_odds_94 : decode cX9_odds 94 = .ok (.goto (-68), 3) := by decide +kernel
theorem dX9_odds_97 : decode cX9_odds 97 = .ok (.lload_n 2, 1) := by decide +kernel
theorem dX9_odds_98 : decode cX9_odds 98 = .ok (.aload_n 0, 1) := by decide +kernel
theorem dX9_odds_99 : decode cX9_odds 99 = .ok (.aload_n 0, 1) := by decide +kernel
theorem dX9_odds_100 : decode cX9_odds 100 = .ok (.getfield 77, 3) := by decide +kernel
theorem dX9_odds_103 : decode cX9_odds 103 = .ok (.invokevirtual 154, 3) := by decide +kernel
theorem dX9_odds_106 : decode cX9_odds 106 = .ok (.i2l, 1) := by decide +kernel
theorem dX9_odds_107 : decode cX9_odds 107 = .ok (.iload_n 1, 1) := by decide +kernel
theorem dX9_odds_108 : decode cX9_odds 108 = .ok (.invokestatic 258, 3) := by decide +kernel
theorem dX9_odds_111 : decode cX9_odds 111 = .ok (.lreturn, 1) := by decide +kernel
theorem dX9_noSheet_0 : decode cX9_noSheet 0 = .ok (.iload_n 0, 1) := by decide +kernel
theorem dX9_noSheet_1 : decode cX9_noSheet 1 = .ok (.i2l, 1) := by decide +kernel
theorem dX9_noSheet_2 : decode cX9_noSheet 2 = .ok (.lconst 0, 1) := by decide +kernel
theorem dX9_noSheet_3 : decode cX9_noSheet 3 = .ok (.ldc2_w 253, 3) := by decide +kernel
theorem dX9_noSheet_6 : decode cX9_noSheet 6 = .ok (.invokestatic 80, 3) := by decide +kernel
theorem dX9_noSheet_9 : decode cX9_noSheet 9 = .ok (.ifCond .ne 7, 3) := by decide +kernel
theorem dX9_noSheet_12 : decode cX9_noSheet 12 = .ok (.iconst 1, 1) := by decide +kernel
theorem dX9_noSheet_13 : decode cX9_noSheet 13 = .ok (.goto 4, 3) := by decide +kernel
theorem dX9_noSheet_16 : decode cX9_noSheet 16 = .ok (.iconst 0, 1) := by decide +kernel
theorem dX9_noSheet_17 : decode cX9_noSheet 17 = .ok (.ireturn, 1) := by decide +kernel
theorem dX9_sheet_0 : decode cX9_sheet 0 = .ok (.iload_n 1, 1) := by decide +kernel
theorem dX9_sheet_1 : decode cX9_sheet 1 = .ok (.invokestatic 113, 3) := by decide +kernel
theorem dX9_sheet_4 : decode cX9_sheet 4 = .ok (.ifCond .eq 9, 3) := by decide +kernel
theorem dX9_sheet_7 : decode cX9_sheet 7 = .ok (.aload_n 0, 1) := by decide +kernel
theorem dX9_sheet_8 : decode cX9_sheet 8 = .ok (.iconst (-1), 1) := by decide +kernel
theorem dX9_sheet_9 : decode cX9_sheet 9 = .ok (.invokevirtual 117, 3) := by decide +kernel
theorem dX9_sheet_12 : decode cX9_sheet 12 = .ok (.ireturn, 1) := by decide +kernel
theorem dX9_sheet_13 : decode cX9_sheet 13 = .ok (.iload_n 2, 1) := by decide +kernel
theorem dX9_sheet_14 : decode cX9_sheet 14 = .ok (.i2l, 1) := by decide +kernel
theorem dX9_sheet_15 : decode cX9_sheet 15 = .ok (.lconst 0, 1) := by decide +kernel
theorem dX9_sheet_16 : decode cX9_sheet 16 = .ok (.ldc2_w 120, 3) := by decide +kernel
theorem dX9_sheet_19 : decode cX9_sheet 19 = .ok (.invokestatic 80, 3) := by decide +kernel
theorem dX9_sheet_22 : decode cX9_sheet 22 = .ok (.ifCond .eq 9, 3) := by decide +kernel
theorem dX9_sheet_25 : decode cX9_sheet 25 = .ok (.iload_n 3, 1) := by decide +kernel
theorem dX9_sheet_26 : decode cX9_sheet 26 = .ok (.bipush 60, 2) := by decide +kernel
theorem dX9_sheet_28 : decode cX9_sheet 28 = .ok (.if_icmp .le 10, 3) := by decide +kernel
theorem dX9_sheet_31 : decode cX9_sheet 31 = .ok (.aload_n 0, 1) := by decide +kernel
theorem dX9_sheet_32 : decode cX9_sheet 32 = .ok (.bipush (-2), 2) := by decide +kernel
theorem dX9_sheet_34 : decode cX9_sheet 34 = .ok (.invokevirtual 117, 3) := by decide +kernel
theorem dX9_sheet_37 : decode cX9_sheet 37 = .ok (.ireturn, 1) := by decide +kernel
theorem dX9_sheet_38 : decode cX9_sheet 38 = .ok (.iload_n 3, 1) := by decide +kernel
theorem dX9_sheet_39 : decode cX9_sheet 39 = .ok (.ifCond .ge 9, 3) := by decide +kernel
theorem dX9_sheet_42 : decode cX9_sheet 42 = .ok (.aload_n 0, 1) := by decide +kernel
theorem dX9_sheet_43 : decode cX9_sheet 43 = .ok (.iconst 4, 1) := by decide +kernel
theorem dX9_sheet_44 : decode cX9_sheet 44 = .ok (.invokevirtual 105, 3) := by decide +kernel
theorem dX9_sheet_47 : decode cX9_sheet 47 = .ok (.ireturn, 1) := by decide +kernel
theorem dX9_sheet_48 : decode cX9_sheet 48 = .ok (.aload_n 0, 1) := by decide +kernel
theorem dX9_sheet_49 : decode cX9_sheet 49 = .ok (.getfield 55, 3) := by decide +kernel
theorem dX9_sheet_52 : decode cX9_sheet 52 = .ok (.iload_n 1, 1) := by decide +kernel
theorem dX9_sheet_53 : decode cX9_sheet 53 = .ok (.iload_n 3, 1) := by decide +kernel
theorem dX9_sheet_54 : decode cX9_sheet 54 = .ok (.iastore, 1) := by decide +kernel
theorem dX9_sheet_55 : decode cX9_sheet 55 = .ok (.aload_n 0, 1) := by decide +kernel
theorem dX9_sheet_56 : decode cX9_sheet 56 = .ok (.getfield 58, 3) := by decide +kernel
theorem dX9_sheet_59 : decode cX9_sheet 59 = .ok (.iload_n 1, 1) := by decide +kernel
theorem dX9_sheet_60 : decode cX9_sheet 60 = .ok (.iload_n 2, 1) := by decide +kernel
theorem dX9_sheet_61 : decode cX9_sheet 61 = .ok (.iastore, 1) := by decide +kernel
theorem dX9_sheet_62 : decode cX9_sheet 62 = .ok (.iconst 0, 1) := by decide +kernel
theorem dX9_sheet_63 : decode cX9_sheet 63 = .ok (.istore 4, 2) := by decide +kernel
theorem dX9_sheet_65 : decode cX9_sheet 65 = .ok (.iload 4, 2) := by decide +kernel
theorem dX9_sheet_67 : decode cX9_sheet 67 = .ok (.iload_n 3, 1) := by decide +kernel
theorem dX9_sheet_68 : decode cX9_sheet 68 = .ok (.if_icmp .ge 22, 3) := by decide +kernel
theorem dX9_sheet_71 : decode cX9_sheet 71 = .ok (.aload_n 0, 1) := by decide +kernel
theorem dX9_sheet_72 : decode cX9_sheet 72 = .ok (.getfield 61, 3) := by decide +kernel
theorem dX9_sheet_75 : decode cX9_sheet 75 = .ok (.bipush 60, 2) := by decide +kernel
theorem dX9_sheet_77 : decode cX9_sheet 77 = .ok (.iload_n 1, 1) := by decide +kernel
theorem dX9_sheet_78 : decode cX9_sheet 78 = .ok (.imul, 1) := by decide +kernel
theorem dX9_sheet_79 : decode cX9_sheet 79 = .ok (.iload 4, 2) := by decide +kernel
theorem dX9_sheet_81 : decode cX9_sheet 81 = .ok (.iadd, 1) := by decide +kernel
theorem dX9_sheet_82 : decode cX9_sheet 82 = .ok (.iconst 0, 1) := by decide +kernel
theorem dX9_sheet_83 : decode cX9_sheet 83 = .ok (.iastore, 1) := by decide +kernel
theorem dX9_sheet_84 : decode cX9_sheet 84 = .ok (.iinc 4 1, 3) := by decide +kernel
theorem dX9_sheet_87 : decode cX9_sheet 87 = .ok (.goto (-22), 3) := by decide +kernel
theorem dX9_sheet_90 : decode cX9_sheet 90 = .ok (.aload_n 0, 1) := by decide +kernel
theorem dX9_sheet_91 : decode cX9_sheet 91 = .ok (.iconst 1, 1) := by decide +kernel
theorem dX9_sheet_92 : decode cX9_sheet 92 = .ok (.invokevirtual 117, 3) := by decide +kernel
theorem dX9_sheet_95 : decode cX9_sheet 95 = .ok (.ireturn, 1) := by decide +kernel
theorem dX9_lose_0 : decode cX9_lose 0 = .ok (.iload_n 1, 1) := by decide +kernel
theorem dX9_lose_1 : decode cX9_lose 1 = .ok (.invokestatic 113, 3) := by decide +kernel
theorem dX9_lose_4 : decode cX9_lose 4 = .ok (.ifCond .eq 5, 3) := by decide +kernel
theorem dX9_lose_7 : decode cX9_lose 7 = .ok (.iconst (-1), 1) := by decide +kernel
theorem dX9_lose_8 : decode cX9_lose 8 = .ok (.ireturn, 1) := by decide +kernel
theorem dX9_lose_9 : decode cX9_lose 9 = .ok (.aload_n 0, 1) := by decide +kernel
theorem dX9_lose_10 : decode cX9_lose 10 = .ok (.getfield 55, 3) := by decide +kernel
theorem dX9_lose_13 : decode cX9_lose 13 = .ok (.iload_n 1, 1) := by decide +kernel
theorem dX9_lose_14 : decode cX9_lose 14 = .ok (.iaload, 1) := by decide +kernel
theorem dX9_lose_15 : decode cX9_lose 15 = .ok (.ifCond .ge 7, 3) := by decide +kernel
theorem dX9_lose_18 : decode cX9_lose 18 = .ok (.iconst 0, 1) := by decide +kernel
theorem dX9_lose_19 : decode cX9_lose 19 = .ok (.goto 4, 3) := by decide +kernel
theorem dX9_lose_22 : decode cX9_lose 22 = .ok (.iconst 1, 1) := by decide +kernel
theorem dX9_lose_23 : decode cX9_lose 23 = .ok (.istore_n 2, 1) := by decide +kernel
theorem dX9_lose_24 : decode cX9_lose 24 = .ok (.aload_n 0, 1) := by decide +kernel
theorem dX9_lose_25 : decode cX9_lose 25 = .ok (.getfield 55, 3) := by decide +kernel
theorem dX9_lose_28 : decode cX9_lose 28 = .ok (.iload_n 1, 1) := by decide +kernel
theorem dX9_lose_29 : decode cX9_lose 29 = .ok (.iconst (-1), 1) := by decide +kernel
theorem dX9_lose_30 : decode cX9_lose 30 = .ok (.iastore, 1) := by decide +kernel
theorem dX9_lose_31 : decode cX9_lose 31 = .ok (.iload_n 2, 1) := by decide +kernel
theorem dX9_lose_32 : decode cX9_lose 32 = .ok (.ireturn, 1) := by decide +kernel
theorem dX9_noCell_0 : decode cX9_noCell 0 = .ok (.aload_n 0, 1) := by decide +kernel
theorem dX9_noCell_1 : decode cX9_noCell 1 = .ok (.getfield 55, 3) := by decide +kernel
theorem dX9_noCell_4 : decode cX9_noCell 4 = .ok (.iload_n 1, 1) := by decide +kernel
theorem dX9_noCell_5 : decode cX9_noCell 5 = .ok (.iaload, 1) := by decide +kernel
theorem dX9_noCell_6 : decode cX9_noCell 6 = .ok (.ifCond .ge 7, 3) := by decide +kernel
theorem dX9_noCell_9 : decode cX9_noCell 9 = .ok (.iconst 1, 1) := by decide +kernel
theorem dX9_noCell_10 : decode cX9_noCell 10 = .ok (.goto 26, 3) := by decide +kernel
theorem dX9_noCell_13 : decode cX9_noCell 13 = .ok (.iload_n 2, 1) := by decide +kernel
theorem dX9_noCell_14 : decode cX9_noCell 14 = .ok (.i2l, 1) := by decide +kernel
theorem dX9_noCell_15 : decode cX9_noCell 15 = .ok (.lconst 0, 1) := by decide +kernel
theorem dX9_noCell_16 : decode cX9_noCell 16 = .ok (.aload_n 0, 1) := by decide +kernel
theorem dX9_noCell_17 : decode cX9_noCell 17 = .ok (.getfield 55, 3) := by decide +kernel
theorem dX9_noCell_20 : decode cX9_noCell 20 = .ok (.iload_n 1, 1) := by decide +kernel
theorem dX9_noCell_21 : decode cX9_noCell 21 = .ok (.iaload, 1) := by decide +kernel
theorem dX9_noCell_22 : decode cX9_noCell 22 = .ok (.i2l, 1) := by decide +kernel
theorem dX9_noCell_23 : decode cX9_noCell 23 = .ok (.lconst 1, 1) := by decide +kernel
theorem dX9_noCell_24 : decode cX9_noCell 24 = .ok (.lsub, 1) := by decide +kernel
theorem dX9_noCell_25 : decode cX9_noCell 25 = .ok (.invokestatic 80, 3) := by decide +kernel
theorem dX9_noCell_28 : decode cX9_noCell 28 = .ok (.ifCond .eq 7, 3) := by decide +kernel
theorem dX9_noCell_31 : decode cX9_noCell 31 = .ok (.iconst 0, 1) := by decide +kernel
theorem dX9_noCell_32 : decode cX9_noCell 32 = .ok (.goto 4, 3) := by decide +kernel
theorem dX9_noCell_35 : decode cX9_noCell 35 = .ok (.iconst 3, 1) := by decide +kernel
theorem dX9_noCell_36 : decode cX9_noCell 36 = .ok (.ireturn, 1) := by decide +kernel
theorem dX9_put_0 : decode cX9_put 0 = .ok (.iload_n 1, 1) := by decide +kernel
theorem dX9_put_1 : decode cX9_put 1 = .ok (.invokestatic 113, 3) := by decide +kernel
theorem dX9_put_4 : decode cX9_put 4 = .ok (.ifCond .eq 9, 3) := by decide +kernel
theorem dX9_put_7 : decode cX9_put 7 = .ok (.aload_n 0, 1) := by decide +kernel
theorem dX9_put_8 : decode cX9_put 8 = .ok (.iconst (-1), 1) := by decide +kernel
theorem dX9_put_9 : decode cX9_put 9 = .ok (.invokevirtual 117, 3) := by decide +kernel
theorem dX9_put_12 : decode cX9_put 12 = .ok (.ireturn, 1) := by decide +kernel
theorem dX9_put_13 : decode cX9_put 13 = .ok (.aload_n 0, 1) := by decide +kernel
theorem dX9_put_14 : decode cX9_put 14 = .ok (.iload_n 1, 1) := by decide +kernel
theorem dX9_put_15 : decode cX9_put 15 = .ok (.iload_n 2, 1) := by decide +kernel
theorem dX9_put_16 : decode cX9_put 16 = .ok (.invokevirtual 262, 3) := by decide +kernel
theorem dX9_put_19 : decode cX9_put 19 = .ok (.ifCond .le 14, 3) := by decide +kernel
theorem dX9_put_22 : decode cX9_put 22 = .ok (.aload_n 0, 1) := by decide +kernel
theorem dX9_put_23 : decode cX9_put 23 = .ok (.aload_n 0, 1) := by decide +kernel
theorem dX9_put_24 : decode cX9_put 24 = .ok (.iload_n 1, 1) := by decide +kernel
theorem dX9_put_25 : decode cX9_put 25 = .ok (.iload_n 2, 1) := by decide +kernel
theorem dX9_put_26 : decode cX9_put 26 = .ok (.invokevirtual 262, 3) := by decide +kernel
theorem dX9_put_29 : decode cX9_put 29 = .ok (.invokevirtual 105, 3) := by decide +kernel
theorem dX9_put_32 : decode cX9_put 32 = .ok (.ireturn, 1) := by decide +kernel
theorem dX9_put_33 : decode cX9_put 33 = .ok (.aload_n 0, 1) := by decide +kernel
theorem dX9_put_34 : decode cX9_put 34 = .ok (.getfield 61, 3) := by decide +kernel
theorem dX9_put_37 : decode cX9_put 37 = .ok (.bipush 60, 2) := by decide +kernel
theorem dX9_put_39 : decode cX9_put 39 = .ok (.iload_n 1, 1) := by decide +kernel
theorem dX9_put_40 : decode cX9_put 40 = .ok (.imul, 1) := by decide +kernel
theorem dX9_put_41 : decode cX9_put 41 = .ok (.iload_n 2, 1) := by decide +kernel
theorem dX9_put_42 : decode cX9_put 42 = .ok (.iadd, 1) := by decide +kernel
theorem dX9_put_43 : decode cX9_put 43 = .ok (.aload_n 0, 1) := by decide +kernel
theorem dX9_put_44 : decode cX9_put 44 = .ok (.getfield 58, 3) := by decide +kernel
theorem dX9_put_47 : decode cX9_put 47 = .ok (.iload_n 1, 1) := by decide +kernel
theorem dX9_put_48 : decode cX9_put 48 = .ok (.iaload, 1) := by decide +kernel
theorem dX9_put_49 : decode cX9_put 49 = .ok (.ifCond .ne 8, 3) := by decide +kernel
theorem dX9_put_52 : decode cX9_put 52 = .ok (.iload_n 3, 1) := by decide +kernel
theorem dX9_put_53 : decode cX9_put 53 = .ok (.i2b, 1) := by decide +kernel
theorem dX9_put_54 : decode cX9_put 54 = .ok (.goto 19, 3) := by decide +kernel
theorem dX9_put_57 : decode cX9_put 57 = .ok (.aload_n 0, 1) := by decide +kernel
theorem dX9_put_58 : decode cX9_put 58 = .ok (.getfield 58, 3) := by decide +kernel
theorem dX9_put_61 : decode cX9_put 61 = .ok (.iload_n 1, 1) := by decide +kernel
theorem dX9_put_62 : decode cX9_put 62 = .ok (.iaload, 1) := by decide +kernel
theorem dX9_put_63 : decode cX9_put 63 = .ok (.iconst 1, 1) := by decide +kernel
theorem dX9_put_64 : decode cX9_put 64 = .ok (.if_icmp .ne 8, 3) := by decide +kernel
theorem dX9_put_67 : decode cX9_put 67 = .ok (.iload_n 3, 1) := by decide +kernel
theorem dX9_put_68 : decode cX9_put 68 = .ok (.i2s, 1) := by decide +kernel
theorem dX9_put_69 : decode cX9_put 69 = .ok (.goto 4, 3) := by decide +kernel
theorem dX9_put_72 : decode cX9_put 72 = .ok (.iload_n 3, 1) := by decide +kernel
theorem dX9_put_73 : decode cX9_put 73 = .ok (.iastore, 1) := by decide +kernel
theorem dX9_put_74 : decode cX9_put 74 = .ok (.aload_n 0, 1) := by decide +kernel
theorem dX9_put_75 : decode cX9_put 75 = .ok (.iconst 1, 1) := by decide +kernel
theorem dX9_put_76 : decode cX9_put 76 = .ok (.invokevirtual 117, 3) := by decide +kernel
theorem dX9_put_79 : decode cX9_put 79 = .ok (.ireturn, 1) := by decide +kernel
theorem dX9_cell_0 : decode cX9_cell 0 = .ok (.aload_n 0, 1) := by decide +kernel
theorem dX9_cell_1 : decode cX9_cell 1 = .ok (.iconst 0, 1) := by decide +kernel
theorem dX9_cell_2 : decode cX9_cell 2 = .ok (.putfield 69, 3) := by decide +kernel
theorem dX9_cell_5 : decode cX9_cell 5 = .ok (.iload_n 1, 1) := by decide +kernel
theorem dX9_cell_6 : decode cX9_cell 6 = .ok (.invokestatic 113, 3) := by decide +kernel
theorem dX9_cell_9 : decode cX9_cell 9 = .ok (.ifCond .ne 15, 3) := by decide +kernel
theorem dX9_cell_12 : decode cX9_cell 12 = .ok (.iload_n 3, 1) := by decide +kernel
theorem dX9_cell_13 : decode cX9_cell 13 = .ok (.i2l, 1) := by decide +kernel
theorem dX9_cell_14 : decode cX9_cell 14 = .ok (.lconst 0, 1) := by decide +kernel
theorem dX9_cell_15 : decode cX9_cell 15 = .ok (.ldc2_w 120, 3) := by decide +kernel
theorem dX9_cell_18 : decode cX9_cell 18 = .ok (.invokestatic 80, 3) := by decide +kernel
theorem dX9_cell_21 : decode cX9_cell 21 = .ok (.ifCond .ne 7, 3) := by decide +kernel
theorem dX9_cell_24 : decode cX9_cell 24 = .ok (.invokestatic 73, 3) := by decide +kernel
theorem dX9_cell_27 : decode cX9_cell 27 = .ok (.lreturn, 1) := by decide +kernel
theorem dX9_cell_28 : decode cX9_cell 28 = .ok (.aload_n 0, 1) := by decide +kernel
theorem dX9_cell_29 : decode cX9_cell 29 = .ok (.getfield 55, 3) := by decide +kernel
theorem dX9_cell_32 : decode cX9_cell 32 = .ok (.iload_n 1, 1) := by decide +kernel
theorem dX9_cell_33 : decode cX9_cell 33 = .ok (.iaload, 1) := by decide +kernel
theorem dX9_cell_34 : decode cX9_cell 34 = .ok (.ifCond .lt 19, 3) := by decide +kernel
theorem dX9_cell_37 : decode cX9_cell 37 = .ok (.aload_n 0, 1) := by decide +kernel
theorem dX9_cell_38 : decode cX9_cell 38 = .ok (.getfield 58, 3) := by decide +kernel
theorem dX9_cell_41 : decode cX9_cell 41 = .ok (.iload_n 1, 1) := by decide +kernel
theorem dX9_cell_42 : decode cX9_cell 42 = .ok (.iaload, 1) := by decide +kernel
theorem dX9_cell_43 : decode cX9_cell 43 = .ok (.iload_n 3, 1) := by decide +kernel
theorem dX9_cell_44 : decode cX9_cell 44 = .ok (.if_icmp .eq 9, 3) := by decide +kernel
theorem dX9_cell_47 : decode cX9_cell 47 = .ok (.aload_n 0, 1) := by decide +kernel
theorem dX9_cell_48 : decode cX9_cell 48 = .ok (.iconst 2, 1) := by decide +kernel
theorem dX9_cell_49 : decode cX9_cell 49 = .ok (.invokevirtual 265, 3) := by decide +kernel
theorem dX9_cell_52 : decode cX9_cell 52 = .ok (.lreturn, 1) := by decide +kernel
theorem dX9_cell_53 : decode cX9_cell 53 = .ok (.aload_n 0, 1) := by decide +kernel
theorem dX9_cell_54 : decode cX9_cell 54 = .ok (.iload_n 1, 1) := by decide +kernel
theorem dX9_cell_55 : decode cX9_cell 55 = .ok (.iload_n 2, 1) := by decide +kernel
theorem dX9_cell_56 : decode cX9_cell 56 = .ok (.invokevirtual 262, 3) := by decide +kernel
theorem dX9_cell_59 : decode cX9_cell 59 = .ok (.ifCond .le 16, 3) := by decide +kernel
theorem dX9_cell_62 : decode cX9_cell 62 = .ok (.aload_n 0, 1) := by decide +kernel
theorem dX9_cell_63 : decode cX9_cell 63 = .ok (.aload_n 0, 1) := by decide +kernel
theorem dX9_cell_64 : decode cX9_cell 64 = .ok (.iload_n 1, 1) := by decide +kernel
theorem dX9_cell_65 : decode cX9_cell 65 = .ok (.iload_n 2, 1) := by decide +kernel
theorem dX9_cell_66 : decode cX9_cell 66 = .ok (.invokevirtual 262, 3) := by decide +kernel
theorem dX9_cell_69 : decode cX9_cell 69 = .ok (.invokevirtual 265, 3) := by decide +kernel
theorem dX9_cell_72 : decode cX9_cell 72 = .ok (.goto 15, 3) := by decide +kernel
theorem dX9_cell_75 : decode cX9_cell 75 = .ok (.aload_n 0, 1) := by decide +kernel
theorem dX9_cell_76 : decode cX9_cell 76 = .ok (.getfield 61, 3) := by decide +kernel
theorem dX9_cell_79 : decode cX9_cell 79 = .ok (.bipush 60, 2) := by decide +kernel
theorem dX9_cell_81 : decode cX9_cell 81 = .ok (.iload_n 1, 1) := by decide +kernel
theorem dX9_cell_82 : decode cX9_cell 82 = .ok (.imul, 1) := by decide +kernel
theorem dX9_cell_83 : decode cX9_cell 83 = .ok (.iload_n 2, 1) := by decide +kernel
theorem dX9_cell_84 : decode cX9_cell 84 = .ok (.iadd, 1) := by decide +kernel
theorem dX9_cell_85 : decode cX9_cell 85 = .ok (.iaload, 1) := by decide +kernel
theorem dX9_cell_86 : decode cX9_cell 86 = .ok (.i2l, 1) := by decide +kernel
theorem dX9_cell_87 : decode cX9_cell 87 = .ok (.lreturn, 1) := by decide +kernel
theorem dX9_isBeyond_0 : decode cX9_isBeyond 0 = .ok (.iload_n 0, 1) := by decide +kernel
theorem dX9_isBeyond_1 : decode cX9_isBeyond 1 = .ok (.ifCond .lt 19, 3) := by decide +kernel
theorem dX9_isBeyond_4 : decode cX9_isBeyond 4 = .ok (.lload_n 1, 1) := by decide +kernel
theorem dX9_isBeyond_5 : decode cX9_isBeyond 5 = .ok (.lconst 0, 1) := by decide +kernel
theorem dX9_isBeyond_6 : decode cX9_isBeyond 6 = .ok (.lcmp, 1) := by decide +kernel
theorem dX9_isBeyond_7 : decode cX9_isBeyond 7 = .ok (.ifCond .lt 13, 3) := by decide +kernel
theorem dX9_isBeyond_10 : decode cX9_isBeyond 10 = .ok (.iload_n 0, 1) := by decide +kernel
theorem dX9_isBeyond_11 : decode cX9_isBeyond 11 = .ok (.i2l, 1) := by decide +kernel
theorem dX9_isBeyond_12 : decode cX9_isBeyond 12 = .ok (.lload_n 1, 1) := by decide +kernel
theorem dX9_isBeyond_13 : decode cX9_isBeyond 13 = .ok (.ladd, 1) := by decide +kernel
theorem dX9_isBeyond_14 : decode cX9_isBeyond 14 = .ok (.iload_n 3, 1) := by decide +kernel
theorem dX9_isBeyond_15 : decode cX9_isBeyond 15 = .ok (.i2l, 1) := by decide +kernel
theorem dX9_isBeyond_16 : decode cX9_isBeyond 16 = .ok (.lcmp, 1) := by decide +kernel
theorem dX9_isBeyond_17 : decode cX9_isBeyond 17 = .ok (.ifCond .le 7, 3) := by decide +kernel
theorem dX9_isBeyond_20 : decode cX9_isBeyond 20 = .ok (.iconst 1, 1) := by decide +kernel
theorem dX9_isBeyond_21 : decode cX9_isBeyond 21 = .ok (.goto 4, 3) := by decide +kernel
theorem dX9_isBeyond_24 : decode cX9_isBeyond 24 = .ok (.iconst 0, 1) := by decide +kernel
theorem dX9_isBeyond_25 : decode cX9_isBeyond 25 = .ok (.ireturn, 1) := by decide +kernel
theorem dX9_copy_0 : decode cX9_copy 0 = .ok (.iload_n 1, 1) := by decide +kernel
theorem dX9_copy_1 : decode cX9_copy 1 = .ok (.invokestatic 113, 3) := by decide +kernel
theorem dX9_copy_4 : decode cX9_copy 4 = .ok (.ifCond .ne 10, 3) := by decide +kernel
theorem dX9_copy_7 : decode cX9_copy 7 = .ok (.iload_n 3, 1) := by decide +kernel
theorem dX9_copy_8 : decode cX9_copy 8 = .ok (.invokestatic 113, 3) := by decide +kernel
theorem dX9_copy_11 : decode cX9_copy 11 = .ok (.ifCond .eq 9, 3) := by decide +kernel
theorem dX9_copy_14 : decode cX9_copy 14 = .ok (.aload_n 0, 1) := by decide +kernel
theorem dX9_copy_15 : decode cX9_copy 15 = .ok (.iconst (-1), 1) := by decide +kernel
theorem dX9_copy_16 : decode cX9_copy 16 = .ok (.invokevirtual 117, 3) := by decide +kernel
theorem dX9_copy_19 : decode cX9_copy 19 = .ok (.ireturn, 1) := by decide +kernel
theorem dX9_copy_20 : decode cX9_copy 20 = .ok (.aload_n 0, 1) := by decide +kernel
theorem dX9_copy_21 : decode cX9_copy 21 = .ok (.getfield 55, 3) := by decide +kernel
theorem dX9_copy_24 : decode cX9_copy 24 = .ok (.iload_n 1, 1) := by decide +kernel
theorem dX9_copy_25 : decode cX9_copy 25 = .ok (.iaload, 1) := by decide +kernel
theorem dX9_copy_26 : decode cX9_copy 26 = .ok (.ifCond .lt 12, 3) := by decide +kernel
theorem dX9_copy_29 : decode cX9_copy 29 = .ok (.aload_n 0, 1) := by decide +kernel
theorem dX9_copy_30 : decode cX9_copy 30 = .ok (.getfield 55, 3) := by decide +kernel
theorem dX9_copy_33 : decode cX9_copy 33 = .ok (.iload_n 3, 1) := by decide +kernel
theorem dX9_copy_34 : decode cX9_copy 34 = .ok (.iaload, 1) := by decide +kernel
theorem dX9_copy_35 : decode cX9_copy 35 = .ok (.ifCond .ge 9, 3) := by decide +kernel
theorem dX9_copy_38 : decode cX9_copy 38 = .ok (.aload_n 0, 1) := by decide +kernel
theorem dX9_copy_39 : decode cX9_copy 39 = .ok (.iconst 1, 1) := by decide +kernel
theorem dX9_copy_40 : decode cX9_copy 40 = .ok (.invokevirtual 105, 3) := by decide +kernel
theorem dX9_copy_43 : decode cX9_copy 43 = .ok (.ireturn, 1) := by decide +kernel
theorem dX9_copy_44 : decode cX9_copy 44 = .ok (.aload_n 0, 1) := by decide +kernel
theorem dX9_copy_45 : decode cX9_copy 45 = .ok (.getfield 58, 3) := by decide +kernel
theorem dX9_copy_48 : decode cX9_copy 48 = .ok (.iload_n 1, 1) := by decide +kernel
theorem dX9_copy_49 : decode cX9_copy 49 = .ok (.iaload, 1) := by decide +kernel
theorem dX9_copy_50 : decode cX9_copy 50 = .ok (.aload_n 0, 1) := by decide +kernel
theorem dX9_copy_51 : decode cX9_copy 51 = .ok (.getfield 58, 3) := by decide +kernel
theorem dX9_copy_54 : decode cX9_copy 54 = .ok (.iload_n 3, 1) := by decide +kernel
theorem dX9_copy_55 : decode cX9_copy 55 = .ok (.iaload, 1) := by decide +kernel
theorem dX9_copy_56 : decode cX9_copy 56 = .ok (.if_icmp .eq 9, 3) := by decide +kernel
theorem dX9_copy_59 : decode cX9_copy 59 = .ok (.aload_n 0, 1) := by decide +kernel
theorem dX9_copy_60 : decode cX9_copy 60 = .ok (.iconst 2, 1) := by decide +kernel
theorem dX9_copy_61 : decode cX9_copy 61 = .ok (.invokevirtual 105, 3) := by decide +kernel
theorem dX9_copy_64 : decode cX9_copy 64 = .ok (.ireturn, 1) := by decide +kernel
theorem dX9_copy_65 : decode cX9_copy 65 = .ok (.iload_n 2, 1) := by decide +kernel
theorem dX9_copy_66 : decode cX9_copy 66 = .ok (.iload 5, 2) := by decide +kernel
theorem dX9_copy_68 : decode cX9_copy 68 = .ok (.i2l, 1) := by decide +kernel
theorem dX9_copy_69 : decode cX9_copy 69 = .ok (.aload_n 0, 1) := by decide +kernel
theorem dX9_copy_70 : decode cX9_copy 70 = .ok (.getfield 55, 3) := by decide +kernel
theorem dX9_copy_73 : decode cX9_copy 73 = .ok (.iload_n 1, 1) := by decide +kernel
theorem dX9_copy_74 : decode cX9_copy 74 = .ok (.iaload, 1) := by decide +kernel
theorem dX9_copy_75 : decode cX9_copy 75 = .ok (.invokestatic 109, 3) := by decide +kernel
theorem dX9_copy_78 : decode cX9_copy 78 = .ok (.ifCond .ne 20, 3) := by decide +kernel
theorem dX9_copy_81 : decode cX9_copy 81 = .ok (.iload 4, 2) := by decide +kernel
theorem dX9_copy_83 : decode cX9_copy 83 = .ok (.iload 5, 2) := by decide +kernel
theorem dX9_copy_85 : decode cX9_copy 85 = .ok (.i2l, 1) := by decide +kernel
theorem dX9_copy_86 : decode cX9_copy 86 = .ok (.aload_n 0, 1) := by decide +kernel
theorem dX9_copy_87 : decode cX9_copy 87 = .ok (.getfield 55, 3) := by decide +kernel
theorem dX9_copy_90 : decode cX9_copy 90 = .ok (.iload_n 3, 1) := by decide +kernel
theorem dX9_copy_91 : decode cX9_copy 91 = .ok (.iaload, 1) := by decide +kernel
theorem dX9_copy_92 : decode cX9_copy 92 = .ok (.invokestatic 109, 3) := by decide +kernel
theorem dX9_copy_95 : decode cX9_copy 95 = .ok (.ifCond .eq 9, 3) := by decide +kernel
theorem dX9_copy_98 : decode cX9_copy 98 = .ok (.aload_n 0, 1) := by decide +kernel
theorem dX9_copy_99 : decode cX9_copy 99 = .ok (.iconst 3, 1) := by decide +kernel
theorem dX9_copy_100 : decode cX9_copy 100 = .ok (.invokevirtual 105, 3) := by decide +kernel
theorem dX9_copy_103 : decode cX9_copy 103 = .ok (.ireturn, 1) := by decide +kernel
theorem dX9_copy_104 : decode cX9_copy 104 = .ok (.iconst 0, 1) := by decide +kernel
theorem dX9_copy_105 : decode cX9_copy 105 = .ok (.istore 6, 2) := by decide +kernel
theorem dX9_copy_107 : decode cX9_copy 107 = .ok (.iload 6, 2) := by decide +kernel
theorem dX9_copy_109 : decode cX9_copy 109 = .ok (.iload 5, 2) := by decide +kernel
theorem dX9_copy_111 : decode cX9_copy 111 = .ok (.if_icmp .ge 30, 3) := by decide +kernel
theorem dX9_copy_114 : decode cX9_copy 114 = .ok (.aload_n 0, 1) := by decide +kernel
theorem dX9_copy_115 : decode cX9_copy 115 = .ok (.getfield 64, 3) := by decide +kernel
theorem dX9_copy_118 : decode cX9_copy 118 = .ok (.iload 6, 2) := by decide +kernel
theorem dX9_copy_120 : decode cX9_copy 120 = .ok (.aload_n 0, 1) := by decide +kernel
theorem dX9_copy_121 : decode cX9_copy 121 = .ok (.getfield 61, 3) := by decide +kernel
theorem dX9_copy_124 : decode cX9_copy 124 = .ok (.bipush 60, 2) := by decide +kernel
theorem dX9_copy_126 : decode cX9_copy 126 = .ok (.iload_n 1, 1) := by decide +kernel
theorem dX9_copy_127 : decode cX9_copy 127 = .ok (.imul, 1) := by decide +kernel
theorem dX9_copy_128 : decode cX9_copy 128 = .ok (.iload_n 2, 1) := by decide +kernel
theorem dX9_copy_129 : decode cX9_copy 129 = .ok (.iadd, 1) := by decide +kernel
theorem dX9_copy_130 : decode cX9_copy 130 = .ok (.iload 6, 2) := by decide +kernel
theorem dX9_copy_132 : decode cX9_copy 132 = .ok (.iadd, 1) := by decide +kernel
theorem dX9_copy_133 : decode cX9_copy 133 = .ok (.iaload, 1) := by decide +kernel
theorem dX9_copy_134 : decode cX9_copy 134 = .ok (.iastore, 1) := by decide +kernel
theorem dX9_copy_135 : decode cX9_copy 135 = .ok (.iinc 6 1, 3) := by decide +kernel
theorem dX9_copy_138 : decode cX9_copy 138 = .ok (.goto (-31), 3) := by decide +kernel
theorem dX9_copy_141 : decode cX9_copy 141 = .ok (.iconst 0, 1) := by decide +kernel
theorem dX9_copy_142 : decode cX9_copy 142 = .ok (.istore 6, 2) := by decide +kernel
theorem dX9_copy_144 : decode cX9_copy 144 = .ok (.iload 6, 2) := by decide +kernel
theorem dX9_copy_146 : decode cX9_copy 146 = .ok (.iload 5, 2) := by decide +kernel
theorem dX9_copy_148 : decode cX9_copy 148 = .ok (.if_icmp .ge 31, 3) := by decide +kernel
theorem dX9_copy_151 : decode cX9_copy 151 = .ok (.aload_n 0, 1) := by decide +kernel
theorem dX9_copy_152 : decode cX9_copy 152 = .ok (.getfield 61, 3) := by decide +kernel
theorem dX9_copy_155 : decode cX9_copy 155 = .ok (.bipush 60, 2) := by decide +kernel
theorem dX9_copy_157 : decode cX9_copy 157 = .ok (.iload_n 3, 1) := by decide +kernel
theorem dX9_copy_158 : decode cX9_copy 158 = .ok (.imul, 1) := by decide +kernel
theorem dX9_copy_159 : decode cX9_copy 159 = .ok (.iload 4, 2) := by decide +kernel
theorem dX9_copy_161 : decode cX9_copy 161 = .ok (.iadd, 1) := by decide +kernel
theorem dX9_copy_162 : decode cX9_copy 162 = .ok (.iload 6, 2) := by decide +kernel
theorem dX9_copy_164 : decode cX9_copy 164 = .ok (.iadd, 1) := by decide +kernel
theorem dX9_copy_165 : decode cX9_copy 165 = .ok (.aload_n 0, 1) := by decide +kernel
theorem dX9_copy_166 : decode cX9_copy 166 = .ok (.getfield 64, 3) := by decide +kernel
theorem dX9_copy_169 : decode cX9_copy 169 = .ok (.iload 6, 2) := by decide +kernel
theorem dX9_copy_171 : decode cX9_copy 171 = .ok (.iaload, 1) := by decide +kernel
theorem dX9_copy_172 : decode cX9_copy 172 = .ok (.iastore, 1) := by decide +kernel
theorem dX9_copy_173 : decode cX9_copy 173 = .ok (.iinc 6 1, 3) := by decide +kernel
theorem dX9_copy_176 : decode cX9_copy 176 = .ok (.goto (-32), 3) := by decide +kernel
theorem dX9_copy_179 : decode cX9_copy 179 = .ok (.aload_n 0, 1) := by decide +kernel
theorem dX9_copy_180 : decode cX9_copy 180 = .ok (.iload 5, 2) := by decide +kernel
theorem dX9_copy_182 : decode cX9_copy 182 = .ok (.invokevirtual 117, 3) := by decide +kernel
theorem dX9_copy_185 : decode cX9_copy 185 = .ok (.ireturn, 1) := by decide +kernel
theorem dX9_traced_0 : decode cX9_traced 0 = .ok (.aload_n 0, 1) := by decide +kernel
theorem dX9_traced_1 : decode cX9_traced 1 = .ok (.bipush 31, 2) := by decide +kernel
theorem dX9_traced_3 : decode cX9_traced 3 = .ok (.aload_n 0, 1) := by decide +kernel
theorem dX9_traced_4 : decode cX9_traced 4 = .ok (.getfield 269, 3) := by decide +kernel
theorem dX9_traced_7 : decode cX9_traced 7 = .ok (.imul, 1) := by decide +kernel
theorem dX9_traced_8 : decode cX9_traced 8 = .ok (.iload_n 1, 1) := by decide +kernel
theorem dX9_traced_9 : decode cX9_traced 9 = .ok (.iadd, 1) := by decide +kernel
theorem dX9_traced_10 : decode cX9_traced 10 = .ok (.putfield 269, 3) := by decide +kernel
theorem dX9_traced_13 : decode cX9_traced 13 = .ok (.return_, 1) := by decide +kernel
theorem dX9_tell_0 : decode cX9_tell 0 = .ok (.aload_n 0, 1) := by decide +kernel
theorem dX9_tell_1 : decode cX9_tell 1 = .ok (.iload_n 1, 1) := by decide +kernel
theorem dX9_tell_2 : decode cX9_tell 2 = .ok (.invokevirtual 160, 3) := by decide +kernel
theorem dX9_tell_5 : decode cX9_tell 5 = .ok (.ifCond .eq 5, 3) := by decide +kernel
theorem dX9_tell_8 : decode cX9_tell 8 = .ok (.iconst (-1), 1) := by decide +kernel
theorem dX9_tell_9 : decode cX9_tell 9 = .ok (.ireturn, 1) := by decide +kernel
theorem dX9_tell_10 : decode cX9_tell 10 = .ok (.aload_n 0, 1) := by decide +kernel
theorem dX9_tell_11 : decode cX9_tell 11 = .ok (.getfield 7, 3) := by decide +kernel
theorem dX9_tell_14 : decode cX9_tell 14 = .ok (.iload_n 1, 1) := by decide +kernel
theorem dX9_tell_15 : decode cX9_tell 15 = .ok (.iaload, 1) := by decide +kernel
theorem dX9_tell_16 : decode cX9_tell 16 = .ok (.istore_n 2, 1) := by decide +kernel
theorem dX9_tell_17 : decode cX9_tell 17 = .ok (.iload_n 2, 1) := by decide +kernel
theorem dX9_tell_18 : decode cX9_tell 18 = .ok (.iconst 2, 1) := by decide +kernel
theorem dX9_tell_19 : decode cX9_tell 19 = .ok (.if_icmp .ne 8, 3) := by decide +kernel
theorem dX9_tell_22 : decode cX9_tell 22 = .ok (.aload_n 0, 1) := by decide +kernel
theorem dX9_tell_23 : decode cX9_tell 23 = .ok (.iconst 3, 1) := by decide +kernel
theorem dX9_tell_24 : decode cX9_tell 24 = .ok (.invokevirtual 272, 3) := by decide +kernel
theorem dX9_tell_27 : decode cX9_tell 27 = .ok (.iload_n 2, 1) := by decide +kernel
theorem dX9_tell_28 : decode cX9_tell 28 = .ok (.ifCond .le 8, 3) := by decide +kernel
theorem dX9_tell_31 : decode cX9_tell 31 = .ok (.aload_n 0, 1) := by decide +kernel
theorem dX9_tell_32 : decode cX9_tell 32 = .ok (.iconst 2, 1) := by decide +kernel
theorem dX9_tell_33 : decode cX9_tell 33 = .ok (.invokevirtual 272, 3) := by decide +kernel
theorem dX9_tell_36 : decode cX9_tell 36 = .ok (.aload_n 0, 1) := by decide +kernel
theorem dX9_tell_37 : decode cX9_tell 37 = .ok (.iconst 1, 1) := by decide +kernel
theorem dX9_tell_38 : decode cX9_tell 38 = .ok (.invokevirtual 272, 3) := by decide +kernel
theorem dX9_tell_41 : decode cX9_tell 41 = .ok (.iload_n 2, 1) := by decide +kernel
theorem dX9_tell_42 : decode cX9_tell 42 = .ok (.iconst 2, 1) := by decide +kernel
theorem dX9_tell_43 : decode cX9_tell 43 = .ok (.if_icmp .ne 8, 3) := by decide +kernel
theorem dX9_tell_46 : decode cX9_tell 46 = .ok (.aload_n 0, 1) := by decide +kernel
theorem dX9_tell_47 : decode cX9_tell 47 = .ok (.iconst 1, 1) := by decide +kernel
theorem dX9_tell_48 : decode cX9_tell 48 = .ok (.invokevirtual 272, 3) := by decide +kernel
theorem dX9_tell_51 : decode cX9_tell 51 = .ok (.aload_n 0, 1) := by decide +kernel
theorem dX9_tell_52 : decode cX9_tell 52 = .ok (.getfield 13, 3) := by decide +kernel
theorem dX9_tell_55 : decode cX9_tell 55 = .ok (.iload_n 1, 1) := by decide +kernel
theorem dX9_tell_56 : decode cX9_tell 56 = .ok (.iaload, 1) := by decide +kernel
theorem dX9_tell_57 : decode cX9_tell 57 = .ok (.istore_n 3, 1) := by decide +kernel
theorem dX9_tell_58 : decode cX9_tell 58 = .ok (.iload_n 2, 1) := by decide +kernel
theorem dX9_tell_59 : decode cX9_tell 59 = .ok (.ifCond .ne 7, 3) := by decide +kernel
theorem dX9_tell_62 : decode cX9_tell 62 = .ok (.iload_n 3, 1) := by decide +kernel
theorem dX9_tell_63 : decode cX9_tell 63 = .ok (.goto 21, 3) := by decide +kernel
theorem dX9_tell_66 : decode cX9_tell 66 = .ok (.iload_n 2, 1) := by decide +kernel
theorem dX9_tell_67 : decode cX9_tell 67 = .ok (.iconst 1, 1) := by decide +kernel
theorem dX9_tell_68 : decode cX9_tell 68 = .ok (.if_icmp .ne 10, 3) := by decide +kernel
theorem dX9_tell_71 : decode cX9_tell 71 = .ok (.iload_n 3, 1) := by decide +kernel
theorem dX9_tell_72 : decode cX9_tell 72 = .ok (.bipush 100, 2) := by decide +kernel
theorem dX9_tell_74 : decode cX9_tell 74 = .ok (.iadd, 1) := by decide +kernel
theorem dX9_tell_75 : decode cX9_tell 75 = .ok (.goto 9, 3) := by decide +kernel
theorem dX9_tell_78 : decode cX9_tell 78 = .ok (.iconst 2, 1) := by decide +kernel
theorem dX9_tell_79 : decode cX9_tell 79 = .ok (.iload_n 3, 1) := by decide +kernel
theorem dX9_tell_80 : decode cX9_tell 80 = .ok (.imul, 1) := by decide +kernel
theorem dX9_tell_81 : decode cX9_tell 81 = .ok (.bipush 100, 2) := by decide +kernel
theorem dX9_tell_83 : decode cX9_tell 83 = .ok (.iadd, 1) := by decide +kernel
theorem dX9_tell_84 : decode cX9_tell 84 = .ok (.ireturn, 1) := by decide +kernel
theorem dX9_hum_0 : decode cX9_hum 0 = .ok (.aload_n 0, 1) := by decide +kernel
theorem dX9_hum_1 : decode cX9_hum 1 = .ok (.iload_n 1, 1) := by decide +kernel
theorem dX9_hum_2 : decode cX9_hum 2 = .ok (.invokevirtual 160, 3) := by decide +kernel
theorem dX9_hum_5 : decode cX9_hum 5 = .ok (.ifCond .eq 5, 3) := by decide +kernel
theorem dX9_hum_8 : decode cX9_hum 8 = .ok (.iconst (-1), 1) := by decide +kernel
theorem dX9_hum_9 : decode cX9_hum 9 = .ok (.ireturn, 1) := by decide +kernel
theorem dX9_hum_10 : decode cX9_hum 10 = .ok (.aload_n 0, 1) := by decide +kernel
theorem dX9_hum_11 : decode cX9_hum 11 = .ok (.aload_n 0, 1) := by decide +kernel
theorem dX9_hum_12 : decode cX9_hum 12 = .ok (.getfield 7, 3) := by decide +kernel
theorem dX9_hum_15 : decode cX9_hum 15 = .ok (.iload_n 1, 1) := by decide +kernel
theorem dX9_hum_16 : decode cX9_hum 16 = .ok (.iaload, 1) := by decide +kernel
theorem dX9_hum_17 : decode cX9_hum 17 = .ok (.iconst 2, 1) := by decide +kernel
theorem dX9_hum_18 : decode cX9_hum 18 = .ok (.if_icmp .ne 7, 3) := by decide +kernel
theorem dX9_hum_21 : decode cX9_hum 21 = .ok (.iconst 5, 1) := by decide +kernel
theorem dX9_hum_22 : decode cX9_hum 22 = .ok (.goto 4, 3) := by decide +kernel
theorem dX9_hum_25 : decode cX9_hum 25 = .ok (.iconst 4, 1) := by decide +kernel
theorem dX9_hum_26 : decode cX9_hum 26 = .ok (.invokevirtual 272, 3) := by decide +kernel
theorem dX9_hum_29 : decode cX9_hum 29 = .ok (.aload_n 0, 1) := by decide +kernel
theorem dX9_hum_30 : decode cX9_hum 30 = .ok (.getfield 7, 3) := by decide +kernel
theorem dX9_hum_33 : decode cX9_hum 33 = .ok (.iload_n 1, 1) := by decide +kernel
theorem dX9_hum_34 : decode cX9_hum 34 = .ok (.iaload, 1) := by decide +kernel
theorem dX9_hum_35 : decode cX9_hum 35 = .ok (.iconst 2, 1) := by decide +kernel
theorem dX9_hum_36 : decode cX9_hum 36 = .ok (.if_icmp .ne 8, 3) := by decide +kernel
theorem dX9_hum_39 : decode cX9_hum 39 = .ok (.bipush 60, 2) := by decide +kernel
theorem dX9_hum_41 : decode cX9_hum 41 = .ok (.goto 4, 3) := by decide +kernel
theorem dX9_hum_44 : decode cX9_hum 44 = .ok (.iload_n 1, 1) := by decide +kernel
theorem dX9_hum_45 : decode cX9_hum 45 = .ok (.ireturn, 1) := by decide +kernel
theorem dX9_as_0 : decode cX9_as 0 = .ok (.aload_n 0, 1) := by decide +kernel
theorem dX9_as_1 : decode cX9_as 1 = .ok (.iload_n 1, 1) := by decide +kernel
theorem dX9_as_2 : decode cX9_as 2 = .ok (.invokevirtual 160, 3) := by decide +kernel
theorem dX9_as_5 : decode cX9_as 5 = .ok (.ifCond .eq 9, 3) := by decide +kernel
theorem dX9_as_8 : decode cX9_as 8 = .ok (.aload_n 0, 1) := by decide +kernel
theorem dX9_as_9 : decode cX9_as 9 = .ok (.iconst (-1), 1) := by decide +kernel
theorem dX9_as_10 : decode cX9_as 10 = .ok (.invokevirtual 117, 3) := by decide +kernel
theorem dX9_as_13 : decode cX9_as 13 = .ok (.ireturn, 1) := by decide +kernel
theorem dX9_as_14 : decode cX9_as 14 = .ok (.iload_n 2, 1) := by decide +kernel
theorem dX9_as_15 : decode cX9_as 15 = .ok (.i2l, 1) := by decide +kernel
theorem dX9_as_16 : decode cX9_as 16 = .ok (.lconst 0, 1) := by decide +kernel
theorem dX9_as_17 : decode cX9_as 17 = .ok (.ldc2_w 120, 3) := by decide +kernel
theorem dX9_as_20 : decode cX9_as 20 = .ok (.invokestatic 80, 3) := by decide +kernel
theorem dX9_as_23 : decode cX9_as 23 = .ok (.ifCond .ne 10, 3) := by decide +kernel
theorem dX9_as_26 : decode cX9_as 26 = .ok (.aload_n 0, 1) := by decide +kernel
theorem dX9_as_27 : decode cX9_as 27 = .ok (.bipush (-2), 2) := by decide +kernel
theorem dX9_as_29 : decode cX9_as 29 = .ok (.invokevirtual 117, 3) := by decide +kernel
theorem dX9_as_32 : decode cX9_as 32 = .ok (.ireturn, 1) := by decide +kernel
theorem dX9_as_33 : decode cX9_as 33 = .ok (.aload_n 0, 1) := by decide +kernel
theorem dX9_as_34 : decode cX9_as 34 = .ok (.getfield 7, 3) := by decide +kernel
theorem dX9_as_37 : decode cX9_as 37 = .ok (.iload_n 1, 1) := by decide +kernel
theorem dX9_as_38 : decode cX9_as 38 = .ok (.iaload, 1) := by decide +kernel
theorem dX9_as_39 : decode cX9_as 39 = .ok (.iload_n 2, 1) := by decide +kernel
theorem dX9_as_40 : decode cX9_as 40 = .ok (.if_icmp .lt 11, 3) := by decide +kernel
theorem dX9_as_43 : decode cX9_as 43 = .ok (.aload_n 0, 1) := by decide +kernel
theorem dX9_as_44 : decode cX9_as 44 = .ok (.iconst 1, 1) := by decide +kernel
theorem dX9_as_45 : decode cX9_as 45 = .ok (.invokevirtual 117, 3) := by decide +kernel
theorem dX9_as_48 : decode cX9_as 48 = .ok (.goto 8, 3) := by decide +kernel
theorem dX9_as_51 : decode cX9_as 51 = .ok (.aload_n 0, 1) := by decide +kernel
theorem dX9_as_52 : decode cX9_as 52 = .ok (.iconst 2, 1) := by decide +kernel
theorem dX9_as_53 : decode cX9_as 53 = .ok (.invokevirtual 105, 3) := by decide +kernel
theorem dX9_as_56 : decode cX9_as 56 = .ok (.ireturn, 1) := by decide +kernel
theorem dX9_trace_0 : decode cX9_trace 0 = .ok (.aload_n 0, 1) := by decide +kernel
theorem dX9_trace_1 : decode cX9_trace 1 = .ok (.getfield 269, 3) := by decide +kernel
theorem dX9_trace_4 : decode cX9_trace 4 = .ok (.ireturn, 1) := by decide +kernel
theorem dX9_fault_0 : decode cX9_fault 0 = .ok (.aload_n 0, 1) := by decide +kernel
theorem dX9_fault_1 : decode cX9_fault 1 = .ok (.getfield 69, 3) := by decide +kernel
theorem dX9_fault_4 : decode cX9_fault 4 = .ok (.ireturn, 1) := by decide +kernel
theorem dX9_many_0 : decode cX9_many 0 = .ok (.iload_n 1, 1) := by decide +kernel
theorem dX9_many_1 : decode cX9_many 1 = .ok (.tableswitch 60 0 4 #[35, 40, 45, 50, 55], 35) := by decide +kernel
theorem dX9_many_36 : decode cX9_many 36 = .ok (.aload_n 0, 1) := by decide +kernel
theorem dX9_many_37 : decode cX9_many 37 = .ok (.getfield 77, 3) := by decide +kernel
theorem dX9_many_40 : decode cX9_many 40 = .ok (.ireturn, 1) := by decide +kernel
theorem dX9_many_41 : decode cX9_many 41 = .ok (.aload_n 0, 1) := by decide +kernel
theorem dX9_many_42 : decode cX9_many 42 = .ok (.getfield 129, 3) := by decide +kernel
theorem dX9_many_45 : decode cX9_many 45 = .ok (.ireturn, 1) := by decide +kernel
theorem dX9_many_46 : decode cX9_many 46 = .ok (.aload_n 0, 1) := by decide +kernel
theorem dX9_many_47 : decode cX9_many 47 = .ok (.getfield 132, 3) := by decide +kernel
theorem dX9_many_50 : decode cX9_many 50 = .ok (.ireturn, 1) := by decide +kernel
theorem dX9_many_51 : decode cX9_many 51 = .ok (.aload_n 0, 1) := by decide +kernel
theorem dX9_many_52 : decode cX9_many 52 = .ok (.invokevirtual 205, 3) := by decide +kernel
theorem dX9_many_55 : decode cX9_many 55 = .ok (.ireturn, 1) := by decide +kernel
theorem dX9_many_56 : decode cX9_many 56 = .ok (.aload_n 0, 1) := by decide +kernel
theorem dX9_many_57 : decode cX9_many 57 = .ok (.getfield 135, 3) := by decide +kernel
theorem dX9_many_60 : decode cX9_many 60 = .ok (.ireturn, 1) := by decide +kernel
theorem dX9_many_61 : decode cX9_many 61 = .ok (.bipush (-2), 2) := by decide +kernel
theorem dX9_many_63 : decode cX9_many 63 = .ok (.ireturn, 1) := by decide +kernel
end
section
theorem dL_law_0 : decode cL_law 0 = .ok (.new 7, 3) := by decide +kernel
theorem dL_law_3 : decode cL_law 3 = .ok (.dup, 1) := by decide +kernel
theorem dL_law_4 : decode cL_law 4 = .ok (.invokespecial 9, 3) := by decide +kernel
theorem dL_law_7 : decode cL_law 7 = .ok (.astore_n 1, 1) := by decide +kernel
theorem dL_law_8 : decode cL_law 8 = .ok (.new 10, 3) := by decide +kernel
theorem dL_law_11 : decode cL_law 11 = .ok (.dup, 1) := by decide +kernel
theorem dL_law_12 : decode cL_law 12 = .ok (.invokespecial 12, 3) := by decide +kernel
theorem dL_law_15 : decode cL_law 15 = .ok (.astore_n 2, 1) := by decide +kernel
theorem dL_law_16 : decode cL_law 16 = .ok (.iconst 0, 1) := by decide +kernel
theorem dL_law_17 : decode cL_law 17 = .ok (.istore_n 3, 1) := by decide +kernel
theorem dL_law_18 : decode cL_law 18 = .ok (.iload_n 3, 1) := by decide +kernel
theorem dL_law_19 : decode cL_law 19 = .ok (.aload_n 0, 1) := by decide +kernel
theorem dL_law_20 : decode cL_law 20 = .ok (.arraylength, 1) := by decide +kernel
theorem dL_law_21 : decode cL_law 21 = .ok (.bipush 7, 2) := by decide +kernel
theorem dL_law_23 : decode cL_law 23 = .ok (.isub, 1) := by decide +kernel
theorem dL_law_24 : decode cL_law 24 = .ok (.if_icmp .gt 1356, 3) := by decide +kernel
theorem dL_law_27 : decode cL_law 27 = .ok (.aload_n 0, 1) := by decide +kernel
theorem dL_law_28 : decode cL_law 28 = .ok (.iload_n 3, 1) := by decide +kernel
theorem dL_law_29 : decode cL_law 29 = .ok (.iaload, 1) := by decide +kernel
theorem dL_law_30 : decode cL_law 30 = .ok (.bipush 63, 2) := by decide +kernel
theorem dL_law_32 : decode cL_law 32 = .ok (.iand, 1) := by decide +kernel
theorem dL_law_33 : decode cL_law 33 = .ok (.tableswitch 1341 0 35 #[159, 212, 245, 278, 311, 344, 377, 410, 433, 456, 489, 522, 565, 598, 611, 634, 667, 690, 765, 788, 851, 894, 917, 950, 973, 997, 1040, 1063, 1106, 1150, 1213, 1236, 1259, 1292, 1305, 1318], 159) := by decide +kernel
theorem dL_law_192 : decode cL_law 192 = .ok (.aload_n 1, 1) := by decide +kernel
theorem dL_law_193 : decode cL_law 193 = .ok (.aload_n 0, 1) := by decide +kernel
theorem dL_law_194 : decode cL_law 194 = .ok (.iload_n 3, 1) := by decide +kernel
theorem dL_law_195 : decode cL_law 195 = .ok (.iconst 1, 1) := by decide +kernel
theorem dL_law_196 : decode cL_law 196 = .ok (.iadd, 1) := by decide +kernel
theorem dL_law_197 : decode cL_law 197 = .ok (.iaload, 1) := by decide +kernel
theorem dL_law_198 : decode cL_law 198 = .ok (.aload_n 0, 1) := by decide +kernel
theorem dL_law_199 : decode cL_law 199 = .ok (.iload_n 3, 1) := by decide +kernel
theorem dL_law_200 : decode cL_law 200 = .ok (.iconst 2, 1) := by decide +kernel
theorem dL_law_201 : decode cL_law 201 = .ok (.iadd, 1) := by decide +kernel
theorem dL_law_202 : decode cL_law 202 = .ok (.iaload, 1) := by decide +kernel
theorem dL_law_203 : decode cL_law 203 = .ok (.aload_n 0, 1) := by decide +kernel
theorem dL_law_204 : decode cL_law 204 = .ok (.iload_n 3, 1) := by decide +kernel
theorem dL_law_205 : decode cL_law 205 = .ok (.iconst 3, 1) := by decide +kernel
theorem dL_law_206 : decode cL_law 206 = .ok (.iadd, 1) := by decide +kernel
theorem dL_law_207 : decode cL_law 207 = .ok (.iaload, 1) := by decide +kernel
theorem dL_law_208 : decode cL_law 208 = .ok (.aload_n 0, 1) := by decide +kernel
theorem dL_law_209 : decode cL_law 209 = .ok (.iload_n 3, 1) := by decide +kernel
theorem dL_law_210 : decode cL_law 210 = .ok (.iconst 4, 1) := by decide +kernel
theorem dL_law_211 : decode cL_law 211 = .ok (.iadd, 1) := by decide +kernel
theorem dL_law_212 : decode cL_law 212 = .ok (.iaload, 1) := by decide +kernel
theorem dL_law_213 : decode cL_law 213 = .ok (.invokevirtual 13, 3) := by decide +kernel
theorem dL_law_216 : decode cL_law 216 = .ok (.aload_n 2, 1) := by decide +kernel
theorem dL_law_217 : decode cL_law 217 = .ok (.aload_n 0, 1) := by decide +kernel
theorem dL_law_218 : decode cL_law 218 = .ok (.iload_n 3, 1) := by decide +kernel
theorem dL_law_219 : decode cL_law 219 = .ok (.iconst 1, 1) := by decide +kernel
theorem dL_law_220 : decode cL_law 220 = .ok (.iadd, 1) := by decide +kernel
theorem dL_law_221 : decode cL_law 221 = .ok (.iaload, 1) := by decide +kernel
theorem dL_law_222 : decode cL_law 222 = .ok (.aload_n 0, 1) := by decide +kernel
theorem dL_law_223 : decode cL_law 223 = .ok (.iload_n 3, 1) := by decide +kernel
theorem dL_law_224 : decode cL_law 224 = .ok (.iconst 2, 1) := by decide +kernel
theorem dL_law_225 : decode cL_law 225 = .ok (.iadd, 1) := by decide +kernel
theorem dL_law_226 : decode cL_law 226 = .ok (.iaload, 1) := by decide +kernel
theorem dL_law_227 : decode cL_law 227 = .ok (.aload_n 0, 1) := by decide +kernel
theorem dL_law_228 : decode cL_law 228 = .ok (.iload_n 3, 1) := by decide +kernel
theorem dL_law_229 : decode cL_law 229 = .ok (.iconst 3, 1) := by decide +kernel
theorem dL_law_230 : decode cL_law 230 = .ok (.iadd, 1) := by decide +kernel
theorem dL_law_231 : decode cL_law 231 = .ok (.iaload, 1) := by decide +kernel
theorem dL_law_232 : decode cL_law 232 = .ok (.aload_n 0, 1) := by decide +kernel
theorem dL_law_233 : decode cL_law 233 = .ok (.iload_n 3, 1) := by decide +kernel
theorem dL_law_234 : decode cL_law 234 = .ok (.iconst 4, 1) := by decide +kernel
theorem dL_law_235 : decode cL_law 235 = .ok (.iadd, 1) := by decide +kernel
theorem dL_law_236 : decode cL_law 236 = .ok (.iaload, 1) := by decide +kernel
theorem dL_law_237 : decode cL_law 237 = .ok (.invokevirtual 17, 3) := by decide +kernel
theorem dL_law_240 : decode cL_law 240 = .ok (.if_icmp .eq 1134, 3) := by decide +kernel
theorem dL_law_243 : decode cL_law 243 = .ok (.iconst 0, 1) := by decide +kernel
theorem dL_law_244 : decode cL_law 244 = .ok (.ireturn, 1) := by decide +kernel
theorem dL_law_245 : decode cL_law 245 = .ok (.aload_n 1, 1) := by decide +kernel
theorem dL_law_246 : decode cL_law 246 = .ok (.aload_n 0, 1) := by decide +kernel
theorem dL_law_247 : decode cL_law 247 = .ok (.iload_n 3, 1) := by decide +kernel
theorem dL_law_248 : decode cL_law 248 = .ok (.iconst 1, 1) := by decide +kernel
theorem dL_law_249 : decode cL_law 249 = .ok (.iadd, 1) := by decide +kernel
theorem dL_law_250 : decode cL_law 250 = .ok (.iaload, 1) := by decide +kernel
theorem dL_law_251 : decode cL_law 251 = .ok (.aload_n 0, 1) := by decide +kernel
theorem dL_law_252 : decode cL_law 252 = .ok (.iload_n 3, 1) := by decide +kernel
theorem dL_law_253 : decode cL_law 253 = .ok (.iconst 2, 1) := by decide +kernel
theorem dL_law_254 : decode cL_law 254 = .ok (.iadd, 1) := by decide +kernel
theorem dL_law_255 : decode cL_law 255 = .ok (.iaload, 1) := by decide +kernel
theorem dL_law_256 : decode cL_law 256 = .ok (.invokevirtual 18, 3) := by decide +kernel
theorem dL_law_259 : decode cL_law 259 = .ok (.aload_n 2, 1) := by decide +kernel
theorem dL_law_260 : decode cL_law 260 = .ok (.aload_n 0, 1) := by decide +kernel
theorem dL_law_261 : decode cL_law 261 = .ok (.iload_n 3, 1) := by decide +kernel
theorem dL_law_262 : decode cL_law 262 = .ok (.iconst 1, 1) := by decide +kernel
theorem dL_law_263 : decode cL_law 263 = .ok (.iadd, 1) := by decide +kernel
theorem dL_law_264 : decode cL_law 264 = .ok (.iaload, 1) := by decide +kernel
theorem dL_law_265 : decode cL_law 265 = .ok (.aload_n 0, 1) := by decide +kernel
theorem dL_law_266 : decode cL_law 266 = .ok (.iload_n 3, 1) := by decide +kernel
theorem dL_law_267 : decode cL_law 267 = .ok (.iconst 2, 1) := by decide +kernel
theorem dL_law_268 : decode cL_law 268 = .ok (.iadd, 1) := by decide +kernel
theorem dL_law_269 : decode cL_law 269 = .ok (.iaload, 1) := by decide +kernel
theorem dL_law_270 : decode cL_law 270 = .ok (.invokevirtual 22, 3) := by decide +kernel
theorem dL_law_273 : decode cL_law 273 = .ok (.if_icmp .eq 1101, 3) := by decide +kernel
theorem dL_law_276 : decode cL_law 276 = .ok (.iconst 0, 1) := by decide +kernel
theorem dL_law_277 : decode cL_law 277 = .ok (.ireturn, 1) := by decide +kernel
theorem dL_law_278 : decode cL_law 278 = .ok (.aload_n 1, 1) := by decide +kernel
theorem dL_law_279 : decode cL_law 279 = .ok (.aload_n 0, 1) := by decide +kernel
theorem dL_law_280 : decode cL_law 280 = .ok (.iload_n 3, 1) := by decide +kernel
theorem dL_law_281 : decode cL_law 281 = .ok (.iconst 1, 1) := by decide +kernel
theorem dL_law_282 : decode cL_law 282 = .ok (.iadd, 1) := by decide +kernel
theorem dL_law_283 : decode cL_law 283 = .ok (.iaload, 1) := by decide +kernel
theorem dL_law_284 : decode cL_law 284 = .ok (.aload_n 0, 1) := by decide +kernel
theorem dL_law_285 : decode cL_law 285 = .ok (.iload_n 3, 1) := by decide +kernel
theorem dL_law_286 : decode cL_law 286 = .ok (.iconst 2, 1) := by decide +kernel
theorem dL_law_287 : decode cL_law 287 = .ok (.iadd, 1) := by decide +kernel
theorem dL_law_288 : decode cL_law 288 = .ok (.iaload, 1) := by decide +kernel
theorem dL_law_289 : decode cL_law 289 = .ok (.invokevirtual 23, 3) := by decide +kernel
theorem dL_law_292 : decode cL_law 292 = .ok (.aload_n 2, 1) := by decide +kernel
theorem dL_law_293 : decode cL_law 293 = .ok (.aload_n 0, 1) := by decide +kernel
theorem dL_law_294 : decode cL_law 294 = .ok (.iload_n 3, 1) := by decide +kernel
theorem dL_law_295 : decode cL_law 295 = .ok (.iconst 1, 1) := by decide +kernel
theorem dL_law_296 : decode cL_law 296 = .ok (.iadd, 1) := by decide +kernel
theorem dL_law_297 : decode cL_law 297 = .ok (.iaload, 1) := by decide +kernel
theorem dL_law_298 : decode cL_law 298 = .ok (.aload_n 0, 1) := by decide +kernel
theorem dL_law_299 : decode cL_law 299 = .ok (.iload_n 3, 1) := by decide +kernel
theorem dL_law_300 : decode cL_law 300 = .ok (.iconst 2, 1) := by decide +kernel
theorem dL_law_301 : decode cL_law 301 = .ok (.iadd, 1) := by decide +kernel
theorem dL_law_302 : decode cL_law 302 = .ok (.iaload, 1) := by decide +kernel
theorem dL_law_303 : decode cL_law 303 = .ok (.invokevirtual 26, 3) := by decide +kernel
theorem dL_law_306 : decode cL_law 306 = .ok (.if_icmp .eq 1068, 3) := by decide +kernel
theorem dL_law_309 : decode cL_law 309 = .ok (.iconst 0, 1) := by decide +kernel
theorem dL_law_310 : decode cL_law 310 = .ok (.ireturn, 1) := by decide +kernel
theorem dL_law_311 : decode cL_law 311 = .ok (.aload_n 1, 1) := by decide +kernel
theorem dL_law_312 : decode cL_law 312 = .ok (.aload_n 0, 1) := by decide +kernel
theorem dL_law_313 : decode cL_law 313 = .ok (.iload_n 3, 1) := by decide +kernel
theorem dL_law_314 : decode cL_law 314 = .ok (.iconst 1, 1) := by decide +kernel
theorem dL_law_315 : decode cL_law 315 = .ok (.iadd, 1) := by decide +kernel
theorem dL_law_316 : decode cL_law 316 = .ok (.iaload, 1) := by decide +kernel
theorem dL_law_317 : decode cL_law 317 = .ok (.aload_n 0, 1) := by decide +kernel
theorem dL_law_318 : decode cL_law 318 = .ok (.iload_n 3, 1) := by decide +kernel
theorem dL_law_319 : decode cL_law 319 = .ok (.iconst 2, 1) := by decide +kernel
theorem dL_law_320 : decode cL_law 320 = .ok (.iadd, 1) := by decide +kernel
theorem dL_law_321 : decode cL_law 321 = .ok (.iaload, 1) := by decide +kernel
theorem dL_law_322 : decode cL_law 322 = .ok (.invokevirtual 27, 3) := by decide +kernel
theorem dL_law_325 : decode cL_law 325 = .ok (.aload_n 2, 1) := by decide +kernel
theorem dL_law_326 : decode cL_law 326 = .ok (.aload_n 0, 1) := by decide +kernel
theorem dL_law_327 : decode cL_law 327 = .ok (.iload_n 3, 1) := by decide +kernel
theorem dL_law_328 : decode cL_law 328 = .ok (.iconst 1, 1) := by decide +kernel
theorem dL_law_329 : decode cL_law 329 = .ok (.iadd, 1) := by decide +kernel
theorem dL_law_330 : decode cL_law 330 = .ok (.iaload, 1) := by decide +kernel
theorem dL_law_331 : decode cL_law 331 = .ok (.aload_n 0, 1) := by decide +kernel
theorem dL_law_332 : decode cL_law 332 = .ok (.iload_n 3, 1) := by decide +kernel
theorem dL_law_333 : decode cL_law 333 = .ok (.iconst 2, 1) := by decide +kernel
theorem dL_law_334 : decode cL_law 334 = .ok (.iadd, 1) := by decide +kernel
theorem dL_law_335 : decode cL_law 335 = .ok (.iaload, 1) := by decide +kernel
theorem dL_law_336 : decode cL_law 336 = .ok (.invokevirtual 30, 3) := by decide +kernel
theorem dL_law_339 : decode cL_law 339 = .ok (.if_icmp .eq 1035, 3) := by decide +kernel
theorem dL_law_342 : decode cL_law 342 = .ok (.iconst 0, 1) := by decide +kernel
theorem dL_law_343 : decode cL_law 343 = .ok (.ireturn, 1) := by decide +kernel
theorem dL_law_344 : decode cL_law 344 = .ok (.aload_n 1, 1) := by decide +kernel
theorem dL_law_345 : decode cL_law 345 = .ok (.aload_n 0, 1) := by decide +kernel
theorem dL_law_346 : decode cL_law 346 = .ok (.iload_n 3, 1) := by decide +kernel
theorem dL_law_347 : decode cL_law 347 = .ok (.iconst 1, 1) := by decide +kernel
theorem dL_law_348 : decode cL_law 348 = .ok (.iadd, 1) := by decide +kernel
theorem dL_law_349 : decode cL_law 349 = .ok (.iaload, 1) := by decide +kernel
theorem dL_law_350 : decode cL_law 350 = .ok (.aload_n 0, 1) := by decide +kernel
theorem dL_law_351 : decode cL_law 351 = .ok (.iload_n 3, 1) := by decide +kernel
theorem dL_law_352 : decode cL_law 352 = .ok (.iconst 2, 1) := by decide +kernel
theorem dL_law_353 : decode cL_law 353 = .ok (.iadd, 1) := by decide +kernel
theorem dL_law_354 : decode cL_law 354 = .ok (.iaload, 1) := by decide +kernel
theorem dL_law_355 : decode cL_law 355 = .ok (.invokevirtual 31, 3) := by decide +kernel
theorem dL_law_358 : decode cL_law 358 = .ok (.aload_n 2, 1) := by decide +kernel
theorem dL_law_359 : decode cL_law 359 = .ok (.aload_n 0, 1) := by decide +kernel
theorem dL_law_360 : decode cL_law 360 = .ok (.iload_n 3, 1) := by decide +kernel
theorem dL_law_361 : decode cL_law 361 = .ok (.iconst 1, 1) := by decide +kernel
theorem dL_law_362 : decode cL_law 362 = .ok (.iadd, 1) := by decide +kernel
theorem dL_law_363 : decode cL_law 363 = .ok (.iaload, 1) := by decide +kernel
theorem dL_law_364 : decode cL_law 364 = .ok (.aload_n 0, 1) := by decide +kernel
theorem dL_law_365 : decode cL_law 365 = .ok (.iload_n 3, 1) := by decide +kernel
theorem dL_law_366 : decode cL_law 366 = .ok (.iconst 2, 1) := by decide +kernel
theorem dL_law_367 : decode cL_law 367 = .ok (.iadd, 1) := by decide +kernel
theorem dL_law_368 : decode cL_law 368 = .ok (.iaload, 1) := by decide +kernel
theorem dL_law_369 : decode cL_law 369 = .ok (.invokevirtual 34, 3) := by decide +kernel
theorem dL_law_372 : decode cL_law 372 = .ok (.if_icmp .eq 1002, 3) := by decide +kernel
theorem dL_law_375 : decode cL_law 375 = .ok (.iconst 0, 1) := by decide +kernel
theorem dL_law_376 : decode cL_law 376 = .ok (.ireturn, 1) := by decide +kernel
theorem dL_law_377 : decode cL_law 377 = .ok (.aload_n 1, 1) := by decide +kernel
theorem dL_law_378 : decode cL_law 378 = .ok (.aload_n 0, 1) := by decide +kernel
theorem dL_law_379 : decode cL_law 379 = .ok (.iload_n 3, 1) := by decide +kernel
theorem dL_law_380 : decode cL_law 380 = .ok (.iconst 1, 1) := by decide +kernel
theorem dL_law_381 : decode cL_law 381 = .ok (.iadd, 1) := by decide +kernel
theorem dL_law_382 : decode cL_law 382 = .ok (.iaload, 1) := by decide +kernel
theorem dL_law_383 : decode cL_law 383 = .ok (.aload_n 0, 1) := by decide +kernel
theorem dL_law_384 : decode cL_law 384 = .ok (.iload_n 3, 1) := by decide +kernel
theorem dL_law_385 : decode cL_law 385 = .ok (.iconst 2, 1) := by decide +kernel
theorem dL_law_386 : decode cL_law 386 = .ok (.iadd, 1) := by decide +kernel
theorem dL_law_387 : decode cL_law 387 = .ok (.iaload, 1) := by decide +kernel
theorem dL_law_388 : decode cL_law 388 = .ok (.invokevirtual 35, 3) := by decide +kernel
theorem dL_law_391 : decode cL_law 391 = .ok (.aload_n 2, 1) := by decide +kernel
theorem dL_law_392 : decode cL_law 392 = .ok (.aload_n 0, 1) := by decide +kernel
theorem dL_law_393 : decode cL_law 393 = .ok (.iload_n 3, 1) := by decide +kernel
theorem dL_law_394 : decode cL_law 394 = .ok (.iconst 1, 1) := by decide +kernel
theorem dL_law_395 : decode cL_law 395 = .ok (.iadd, 1) := by decide +kernel
theorem dL_law_396 : decode cL_law 396 = .ok (.iaload, 1) := by decide +kernel
theorem dL_law_397 : decode cL_law 397 = .ok (.aload_n 0, 1) := by decide +kernel
theorem dL_law_398 : decode cL_law 398 = .ok (.iload_n 3, 1) := by decide +kernel
theorem dL_law_399 : decode cL_law 399 = .ok (.iconst 2, 1) := by decide +kernel
theorem dL_law_400 : decode cL_law 400 = .ok (.iadd, 1) := by decide +kernel
theorem dL_law_401 : decode cL_law 401 = .ok (.iaload, 1) := by decide +kernel
theorem dL_law_402 : decode cL_law 402 = .ok (.invokevirtual 38, 3) := by decide +kernel
theorem dL_law_405 : decode cL_law 405 = .ok (.if_icmp .eq 969, 3) := by decide +kernel
theorem dL_law_408 : decode cL_law 408 = .ok (.iconst 0, 1) := by decide +kernel
theorem dL_law_409 : decode cL_law 409 = .ok (.ireturn, 1) := by decide +kernel
theorem dL_law_410 : decode cL_law 410 = .ok (.aload_n 1, 1) := by decide +kernel
theorem dL_law_411 : decode cL_law 411 = .ok (.aload_n 0, 1) := by decide +kernel
theorem dL_law_412 : decode cL_law 412 = .ok (.iload_n 3, 1) := by decide +kernel
theorem dL_law_413 : decode cL_law 413 = .ok (.iconst 1, 1) := by decide +kernel
theorem dL_law_414 : decode cL_law 414 = .ok (.iadd, 1) := by decide +kernel
theorem dL_law_415 : decode cL_law 415 = .ok (.iaload, 1) := by decide +kernel
theorem dL_law_416 : decode cL_law 416 = .ok (.aload_n 0, 1) := by decide +kernel
theorem dL_law_417 : decode cL_law 417 = .ok (.iload_n 3, 1) := by decide +kernel
theorem dL_law_418 : decode cL_law 418 = .ok (.iconst 2, 1) := by decide +kernel
theorem dL_law_419 : decode cL_law 419 = .ok (.iadd, 1) := by decide +kernel
theorem dL_law_420 : decode cL_law 420 = .ok (.iaload, 1) := by decide +kernel
theorem dL_law_421 : decode cL_law 421 = .ok (.invokevirtual 39, 3) := by decide +kernel
theorem dL_law_424 : decode cL_law 424 = .ok (.aload_n 2, 1) := by decide +kernel
theorem dL_law_425 : decode cL_law 425 = .ok (.aload_n 0, 1) := by decide +kernel
theorem dL_law_426 : decode cL_law 426 = .ok (.iload_n 3, 1) := by decide +kernel
theorem dL_law_427 : decode cL_law 427 = .ok (.iconst 1, 1) := by decide +kernel
theorem dL_law_428 : decode cL_law 428 = .ok (.iadd, 1) := by decide +kernel
theorem dL_law_429 : decode cL_law 429 = .ok (.iaload, 1) := by decide +kernel
theorem dL_law_430 : decode cL_law 430 = .ok (.aload_n 0, 1) := by decide +kernel
theorem dL_law_431 : decode cL_law 431 = .ok (.iload_n 3, 1) := by decide +kernel
theorem dL_law_432 : decode cL_law 432 = .ok (.iconst 2, 1) := by decide +kernel
theorem dL_law_433 : decode cL_law 433 = .ok (.iadd, 1) := by decide +kernel
theorem dL_law_434 : decode cL_law 434 = .ok (.iaload, 1) := by decide +kernel
theorem dL_law_435 : decode cL_law 435 = .ok (.invokevirtual 42, 3) := by decide +kernel
theorem dL_law_438 : decode cL_law 438 = .ok (.if_icmp .eq 936, 3) := by decide +kernel
theorem dL_law_441 : decode cL_law 441 = .ok (.iconst 0, 1) := by decide +kernel
theorem dL_law_442 : decode cL_law 442 = .ok (.ireturn, 1) := by decide +kernel
theorem dL_law_443 : decode cL_law 443 = .ok (.aload_n 1, 1) := by decide +kernel
theorem dL_law_444 : decode cL_law 444 = .ok (.aload_n 0, 1) := by decide +kernel
theorem dL_law_445 : decode cL_law 445 = .ok (.iload_n 3, 1) := by decide +kernel
theorem dL_law_446 : decode cL_law 446 = .ok (.iconst 1, 1) := by decide +kernel
theorem dL_law_447 : decode cL_law 447 = .ok (.iadd, 1) := by decide +kernel
theorem dL_law_448 : decode cL_law 448 = .ok (.iaload, 1) := by decide +kernel
theorem dL_law_449 : decode cL_law 449 = .ok (.invokevirtual 43, 3) := by decide +kernel
theorem dL_law_452 : decode cL_law 452 = .ok (.aload_n 2, 1) := by decide +kernel
theorem dL_law_453 : decode cL_law 453 = .ok (.aload_n 0, 1) := by decide +kernel
theorem dL_law_454 : decode cL_law 454 = .ok (.iload_n 3, 1) := by decide +kernel
theorem dL_law_455 : decode cL_law 455 = .ok (.iconst 1, 1) := by decide +kernel
theorem dL_law_456 : decode cL_law 456 = .ok (.iadd, 1) := by decide +kernel
theorem dL_law_457 : decode cL_law 457 = .ok (.iaload, 1) := by decide +kernel
theorem dL_law_458 : decode cL_law 458 = .ok (.invokevirtual 47, 3) := by decide +kernel
theorem dL_law_461 : decode cL_law 461 = .ok (.if_icmp .eq 913, 3) := by decide +kernel
theorem dL_law_464 : decode cL_law 464 = .ok (.iconst 0, 1) := by decide +kernel
theorem dL_law_465 : decode cL_law 465 = .ok (.ireturn, 1) := by decide +kernel
theorem dL_law_466 : decode cL_law 466 = .ok (.aload_n 1, 1) := by decide +kernel
theorem dL_law_467 : decode cL_law 467 = .ok (.aload_n 0, 1) := by decide +kernel
theorem dL_law_468 : decode cL_law 468 = .ok (.iload_n 3, 1) := by decide +kernel
theorem dL_law_469 : decode cL_law 469 = .ok (.iconst 1, 1) := by decide +kernel
theorem dL_law_470 : decode cL_law 470 = .ok (.iadd, 1) := by decide +kernel
theorem dL_law_471 : decode cL_law 471 = .ok (.iaload, 1) := by decide +kernel
theorem dL_law_472 : decode cL_law 472 = .ok (.invokevirtual 48, 3) := by decide +kernel
theorem dL_law_475 : decode cL_law 475 = .ok (.aload_n 2, 1) := by decide +kernel
theorem dL_law_476 : decode cL_law 476 = .ok (.aload_n 0, 1) := by decide +kernel
theorem dL_law_477 : decode cL_law 477 = .ok (.iload_n 3, 1) := by decide +kernel
theorem dL_law_478 : decode cL_law 478 = .ok (.iconst 1, 1) := by decide +kernel
theorem dL_law_479 : decode cL_law 479 = .ok (.iadd, 1) := by decide +kernel
theorem dL_law_480 : decode cL_law 480 = .ok (.iaload, 1) := by decide +kernel
theorem dL_law_481 : decode cL_law 481 = .ok (.invokevirtual 51, 3) := by decide +kernel
theorem dL_law_484 : decode cL_law 484 = .ok (.if_icmp .eq 890, 3) := by decide +kernel
theorem dL_law_487 : decode cL_law 487 = .ok (.iconst 0, 1) := by decide +kernel
theorem dL_law_488 : decode cL_law 488 = .ok (.ireturn, 1) := by decide +kernel
theorem dL_law_489 : decode cL_law 489 = .ok (.aload_n 1, 1) := by decide +kernel
theorem dL_law_490 : decode cL_law 490 = .ok (.aload_n 0, 1) := by decide +kernel
theorem dL_law_491 : decode cL_law 491 = .ok (.iload_n 3, 1) := by decide +kernel
theorem dL_law_492 : decode cL_law 492 = .ok (.iconst 1, 1) := by decide +kernel
theorem dL_law_493 : decode cL_law 493 = .ok (.iadd, 1) := by decide +kernel
theorem dL_law_494 : decode cL_law 494 = .ok (.iaload, 1) := by decide +kernel
theorem dL_law_495 : decode cL_law 495 = .ok (.aload_n 0, 1) := by decide +kernel
theorem dL_law_496 : decode cL_law 496 = .ok (.iload_n 3, 1) := by decide +kernel
theorem dL_law_497 : decode cL_law 497 = .ok (.iconst 2, 1) := by decide +kernel
theorem dL_law_498 : decode cL_law 498 = .ok (.iadd, 1) := by decide +kernel
theorem dL_law_499 : decode cL_law 499 = .ok (.iaload, 1) := by decide +kernel
theorem dL_law_500 : decode cL_law 500 = .ok (.invokevirtual 52, 3) := by decide +kernel
theorem dL_law_503 : decode cL_law 503 = .ok (.aload_n 2, 1) := by decide +kernel
theorem dL_law_504 : decode cL_law 504 = .ok (.aload_n 0, 1) := by decide +kernel
theorem dL_law_505 : decode cL_law 505 = .ok (.iload_n 3, 1) := by decide +kernel
theorem dL_law_506 : decode cL_law 506 = .ok (.iconst 1, 1) := by decide +kernel
theorem dL_law_507 : decode cL_law 507 = .ok (.iadd, 1) := by decide +kernel
theorem dL_law_508 : decode cL_law 508 = .ok (.iaload, 1) := by decide +kernel
theorem dL_law_509 : decode cL_law 509 = .ok (.aload_n 0, 1) := by decide +kernel
theorem dL_law_510 : decode cL_law 510 = .ok (.iload_n 3, 1) := by decide +kernel
theorem dL_law_511 : decode cL_law 511 = .ok (.iconst 2, 1) := by decide +kernel
theorem dL_law_512 : decode cL_law 512 = .ok (.iadd, 1) := by decide +kernel
theorem dL_law_513 : decode cL_law 513 = .ok (.iaload, 1) := by decide +kernel
theorem dL_law_514 : decode cL_law 514 = .ok (.invokevirtual 55, 3) := by decide +kernel
theorem dL_law_517 : decode cL_law 517 = .ok (.if_icmp .eq 857, 3) := by decide +kernel
theorem dL_law_520 : decode cL_law 520 = .ok (.iconst 0, 1) := by decide +kernel
theorem dL_law_521 : decode cL_law 521 = .ok (.ireturn, 1) := by decide +kernel
theorem dL_law_522 : decode cL_law 522 = .ok (.aload_n 1, 1) := by decide +kernel
theorem dL_law_523 : decode cL_law 523 = .ok (.aload_n 0, 1) := by decide +kernel
theorem dL_law_524 : decode cL_law 524 = .ok (.iload_n 3, 1) := by decide +kernel
theorem dL_law_525 : decode cL_law 525 = .ok (.iconst 1, 1) := by decide +kernel
theorem dL_law_526 : decode cL_law 526 = .ok (.iadd, 1) := by decide +kernel
theorem dL_law_527 : decode cL_law 527 = .ok (.iaload, 1) := by decide +kernel
theorem dL_law_528 : decode cL_law 528 = .ok (.aload_n 0, 1) := by decide +kernel
theorem dL_law_529 : decode cL_law 529 = .ok (.iload_n 3, 1) := by decide +kernel
theorem dL_law_530 : decode cL_law 530 = .ok (.iconst 2, 1) := by decide +kernel
theorem dL_law_531 : decode cL_law 531 = .ok (.iadd, 1) := by decide +kernel
theorem dL_law_532 : decode cL_law 532 = .ok (.iaload, 1) := by decide +kernel
theorem dL_law_533 : decode cL_law 533 = .ok (.invokevirtual 56, 3) := by decide +kernel
theorem dL_law_536 : decode cL_law 536 = .ok (.aload_n 2, 1) := by decide +kernel
theorem dL_law_537 : decode cL_law 537 = .ok (.aload_n 0, 1) := by decide +kernel
theorem dL_law_538 : decode cL_law 538 = .ok (.iload_n 3, 1) := by decide +kernel
theorem dL_law_539 : decode cL_law 539 = .ok (.iconst 1, 1) := by decide +kernel
theorem dL_law_540 : decode cL_law 540 = .ok (.iadd, 1) := by decide +kernel
theorem dL_law_541 : decode cL_law 541 = .ok (.iaload, 1) := by decide +kernel
theorem dL_law_542 : decode cL_law 542 = .ok (.aload_n 0, 1) := by decide +kernel
theorem dL_law_543 : decode cL_law 543 = .ok (.iload_n 3, 1) := by decide +kernel
theorem dL_law_544 : decode cL_law 544 = .ok (.iconst 2, 1) := by decide +kernel
theorem dL_law_545 : decode cL_law 545 = .ok (.iadd, 1) := by decide +kernel
theorem dL_law_546 : decode cL_law 546 = .ok (.iaload, 1) := by decide +kernel
theorem dL_law_547 : decode cL_law 547 = .ok (.invokevirtual 59, 3) := by decide +kernel
theorem dL_law_550 : decode cL_law 550 = .ok (.if_icmp .eq 824, 3) := by decide +kernel
theorem dL_law_553 : decode cL_law 553 = .ok (.iconst 0, 1) := by decide +kernel
theorem dL_law_554 : decode cL_law 554 = .ok (.ireturn, 1) := by decide +kernel
theorem dL_law_555 : decode cL_law 555 = .ok (.aload_n 1, 1) := by decide +kernel
theorem dL_law_556 : decode cL_law 556 = .ok (.aload_n 0, 1) := by decide +kernel
theorem dL_law_557 : decode cL_law 557 = .ok (.iload_n 3, 1) := by decide +kernel
theorem dL_law_558 : decode cL_law 558 = .ok (.iconst 1, 1) := by decide +kernel
theorem dL_law_559 : decode cL_law 559 = .ok (.iadd, 1) := by decide +kernel
theorem dL_law_560 : decode cL_law 560 = .ok (.iaload, 1) := by decide +kernel
theorem dL_law_561 : decode cL_law 561 = .ok (.aload_n 0, 1) := by decide +kernel
theorem dL_law_562 : decode cL_law 562 = .ok (.iload_n 3, 1) := by decide +kernel
theorem dL_law_563 : decode cL_law 563 = .ok (.iconst 2, 1) := by decide +kernel
theorem dL_law_564 : decode cL_law 564 = .ok (.iadd, 1) := by decide +kernel
theorem dL_law_565 : decode cL_law 565 = .ok (.iaload, 1) := by decide +kernel
theorem dL_law_566 : decode cL_law 566 = .ok (.aload_n 0, 1) := by decide +kernel
theorem dL_law_567 : decode cL_law 567 = .ok (.iload_n 3, 1) := by decide +kernel
theorem dL_law_568 : decode cL_law 568 = .ok (.iconst 3, 1) := by decide +kernel
theorem dL_law_569 : decode cL_law 569 = .ok (.iadd, 1) := by decide +kernel
theorem dL_law_570 : decode cL_law 570 = .ok (.iaload, 1) := by decide +kernel
theorem dL_law_571 : decode cL_law 571 = .ok (.invokevirtual 60, 3) := by decide +kernel
theorem dL_law_574 : decode cL_law 574 = .ok (.aload_n 2, 1) := by decide +kernel
theorem dL_law_575 : decode cL_law 575 = .ok (.aload_n 0, 1) := by decide +kernel
theorem dL_law_576 : decode cL_law 576 = .ok (.iload_n 3, 1) := by decide +kernel
theorem dL_law_577 : decode cL_law 577 = .ok (.iconst 1, 1) := by decide +kernel
theorem dL_law_578 : decode cL_law 578 = .ok (.iadd, 1) := by decide +kernel
theorem dL_law_579 : decode cL_law 579 = .ok (.iaload, 1) := by decide +kernel
theorem dL_law_580 : decode cL_law 580 = .ok (.aload_n 0, 1) := by decide +kernel
theorem dL_law_581 : decode cL_law 581 = .ok (.iload_n 3, 1) := by decide +kernel
theorem dL_law_582 : decode cL_law 582 = .ok (.iconst 2, 1) := by decide +kernel
theorem dL_law_583 : decode cL_law 583 = .ok (.iadd, 1) := by decide +kernel
theorem dL_law_584 : decode cL_law 584 = .ok (.iaload, 1) := by decide +kernel
theorem dL_law_585 : decode cL_law 585 = .ok (.aload_n 0, 1) := by decide +kernel
theorem dL_law_586 : decode cL_law 586 = .ok (.iload_n 3, 1) := by decide +kernel
theorem dL_law_587 : decode cL_law 587 = .ok (.iconst 3, 1) := by decide +kernel
theorem dL_law_588 : decode cL_law 588 = .ok (.iadd, 1) := by decide +kernel
theorem dL_law_589 : decode cL_law 589 = .ok (.iaload, 1) := by decide +kernel
theorem dL_law_590 : decode cL_law 590 = .ok (.invokevirtual 64, 3) := by decide +kernel
theorem dL_law_593 : decode cL_law 593 = .ok (.if_icmp .eq 781, 3) := by decide +kernel
theorem dL_law_596 : decode cL_law 596 = .ok (.iconst 0, 1) := by decide +kernel
theorem dL_law_597 : decode cL_law 597 = .ok (.ireturn, 1) := by decide +kernel
theorem dL_law_598 : decode cL_law 598 = .ok (.aload_n 1, 1) := by decide +kernel
theorem dL_law_599 : decode cL_law 599 = .ok (.aload_n 0, 1) := by decide +kernel
theorem dL_law_600 : decode cL_law 600 = .ok (.iload_n 3, 1) := by decide +kernel
theorem dL_law_601 : decode cL_law 601 = .ok (.iconst 1, 1) := by decide +kernel
theorem dL_law_602 : decode cL_law 602 = .ok (.iadd, 1) := by decide +kernel
theorem dL_law_603 : decode cL_law 603 = .ok (.iaload, 1) := by decide +kernel
theorem dL_law_604 : decode cL_law 604 = .ok (.aload_n 0, 1) := by decide +kernel
theorem dL_law_605 : decode cL_law 605 = .ok (.iload_n 3, 1) := by decide +kernel
theorem dL_law_606 : decode cL_law 606 = .ok (.iconst 2, 1) := by decide +kernel
theorem dL_law_607 : decode cL_law 607 = .ok (.iadd, 1) := by decide +kernel
theorem dL_law_608 : decode cL_law 608 = .ok (.iaload, 1) := by decide +kernel
theorem dL_law_609 : decode cL_law 609 = .ok (.invokevirtual 65, 3) := by decide +kernel
theorem dL_law_612 : decode cL_law 612 = .ok (.aload_n 2, 1) := by decide +kernel
theorem dL_law_613 : decode cL_law 613 = .ok (.aload_n 0, 1) := by decide +kernel
theorem dL_law_614 : decode cL_law 614 = .ok (.iload_n 3, 1) := by decide +kernel
theorem dL_law_615 : decode cL_law 615 = .ok (.iconst 1, 1) := by decide +kernel
theorem dL_law_616 : decode cL_law 616 = .ok (.iadd, 1) := by decide +kernel
theorem dL_law_617 : decode cL_law 617 = .ok (.iaload, 1) := by decide +kernel
theorem dL_law_618 : decode cL_law 618 = .ok (.aload_n 0, 1) := by decide +kernel
theorem dL_law_619 : decode cL_law 619 = .ok (.iload_n 3, 1) := by decide +kernel
theorem dL_law_620 : decode cL_law 620 = .ok (.iconst 2, 1) := by decide +kernel
theorem dL_law_621 : decode cL_law 621 = .ok (.iadd, 1) := by decide +kernel
theorem dL_law_622 : decode cL_law 622 = .ok (.iaload, 1) := by decide +kernel
theorem dL_law_623 : decode cL_law 623 = .ok (.invokevirtual 68, 3) := by decide +kernel
theorem dL_law_626 : decode cL_law 626 = .ok (.if_icmp .eq 748, 3) := by decide +kernel
theorem dL_law_629 : decode cL_law 629 = .ok (.iconst 0, 1) := by decide +kernel
theorem dL_law_630 : decode cL_law 630 = .ok (.ireturn, 1) := by decide +kernel
theorem dL_law_631 : decode cL_law 631 = .ok (.aload_n 1, 1) := by decide +kernel
theorem dL_law_632 : decode cL_law 632 = .ok (.invokevirtual 69, 3) := by decide +kernel
theorem dL_law_635 : decode cL_law 635 = .ok (.aload_n 2, 1) := by decide +kernel
theorem dL_law_636 : decode cL_law 636 = .ok (.invokevirtual 73, 3) := by decide +kernel
theorem dL_law_639 : decode cL_law 639 = .ok (.if_icmp .eq 735, 3) := by decide +kernel
theorem dL_law_642 : decode cL_law 642 = .ok (.iconst 0, 1) := by decide +kernel
theorem dL_law_643 : decode cL_law 643 = .ok (.ireturn, 1) := by decide +kernel
theorem dL_law_644 : decode cL_law 644 = .ok (.aload_n 1, 1) := by decide +kernel
theorem dL_law_645 : decode cL_law 645 = .ok (.aload_n 0, 1) := by decide +kernel
theorem dL_law_646 : decode cL_law 646 = .ok (.iload_n 3, 1) := by decide +kernel
theorem dL_law_647 : decode cL_law 647 = .ok (.iconst 1, 1) := by decide +kernel
theorem dL_law_648 : decode cL_law 648 = .ok (.iadd, 1) := by decide +kernel
theorem dL_law_649 : decode cL_law 649 = .ok (.iaload, 1) := by decide +kernel
theorem dL_law_650 : decode cL_law 650 = .ok (.invokevirtual 74, 3) := by decide +kernel
theorem dL_law_653 : decode cL_law 653 = .ok (.aload_n 2, 1) := by decide +kernel
theorem dL_law_654 : decode cL_law 654 = .ok (.aload_n 0, 1) := by decide +kernel
theorem dL_law_655 : decode cL_law 655 = .ok (.iload_n 3, 1) := by decide +kernel
theorem dL_law_656 : decode cL_law 656 = .ok (.iconst 1, 1) := by decide +kernel
theorem dL_law_657 : decode cL_law 657 = .ok (.iadd, 1) := by decide +kernel
theorem dL_law_658 : decode cL_law 658 = .ok (.iaload, 1) := by decide +kernel
theorem dL_law_659 : decode cL_law 659 = .ok (.invokevirtual 77, 3) := by decide +kernel
theorem dL_law_662 : decode cL_law 662 = .ok (.if_icmp .eq 712, 3) := by decide +kernel
theorem dL_law_665 : decode cL_law 665 = .ok (.iconst 0, 1) := by decide +kernel
theorem dL_law_666 : decode cL_law 666 = .ok (.ireturn, 1) := by decide +kernel
theorem dL_law_667 : decode cL_law 667 = .ok (.aload_n 1, 1) := by decide +kernel
theorem dL_law_668 : decode cL_law 668 = .ok (.aload_n 0, 1) := by decide +kernel
theorem dL_law_669 : decode cL_law 669 = .ok (.iload_n 3, 1) := by decide +kernel
theorem dL_law_670 : decode cL_law 670 = .ok (.iconst 1, 1) := by decide +kernel
theorem dL_law_671 : decode cL_law 671 = .ok (.iadd, 1) := by decide +kernel
theorem dL_law_672 : decode cL_law 672 = .ok (.iaload, 1) := by decide +kernel
theorem dL_law_673 : decode cL_law 673 = .ok (.aload_n 0, 1) := by decide +kernel
theorem dL_law_674 : decode cL_law 674 = .ok (.iload_n 3, 1) := by decide +kernel
theorem dL_law_675 : decode cL_law 675 = .ok (.iconst 2, 1) := by decide +kernel
theorem dL_law_676 : decode cL_law 676 = .ok (.iadd, 1) := by decide +kernel
theorem dL_law_677 : decode cL_law 677 = .ok (.iaload, 1) := by decide +kernel
theorem dL_law_678 : decode cL_law 678 = .ok (.invokevirtual 78, 3) := by decide +kernel
theorem dL_law_681 : decode cL_law 681 = .ok (.aload_n 2, 1) := by decide +kernel
theorem dL_law_682 : decode cL_law 682 = .ok (.aload_n 0, 1) := by decide +kernel
theorem dL_law_683 : decode cL_law 683 = .ok (.iload_n 3, 1) := by decide +kernel
theorem dL_law_684 : decode cL_law 684 = .ok (.iconst 1, 1) := by decide +kernel
theorem dL_law_685 : decode cL_law 685 = .ok (.iadd, 1) := by decide +kernel
theorem dL_law_686 : decode cL_law 686 = .ok (.iaload, 1) := by decide +kernel
theorem dL_law_687 : decode cL_law 687 = .ok (.aload_n 0, 1) := by decide +kernel
theorem dL_law_688 : decode cL_law 688 = .ok (.iload_n 3, 1) := by decide +kernel
theorem dL_law_689 : decode cL_law 689 = .ok (.iconst 2, 1) := by decide +kernel
theorem dL_law_690 : decode cL_law 690 = .ok (.iadd, 1) := by decide +kernel
theorem dL_law_691 : decode cL_law 691 = .ok (.iaload, 1) := by decide +kernel
theorem dL_law_692 : decode cL_law 692 = .ok (.invokevirtual 81, 3) := by decide +kernel
theorem dL_law_695 : decode cL_law 695 = .ok (.if_icmp .eq 679, 3) := by decide +kernel
theorem dL_law_698 : decode cL_law 698 = .ok (.iconst 0, 1) := by decide +kernel
theorem dL_law_699 : decode cL_law 699 = .ok (.ireturn, 1) := by decide +kernel
theorem dL_law_700 : decode cL_law 700 = .ok (.aload_n 1, 1) := by decide +kernel
theorem dL_law_701 : decode cL_law 701 = .ok (.aload_n 0, 1) := by decide +kernel
theorem dL_law_702 : decode cL_law 702 = .ok (.iload_n 3, 1) := by decide +kernel
theorem dL_law_703 : decode cL_law 703 = .ok (.iconst 1, 1) := by decide +kernel
theorem dL_law_704 : decode cL_law 704 = .ok (.iadd, 1) := by decide +kernel
theorem dL_law_705 : decode cL_law 705 = .ok (.iaload, 1) := by decide +kernel
theorem dL_law_706 : decode cL_law 706 = .ok (.invokevirtual 82, 3) := by decide +kernel
theorem dL_law_709 : decode cL_law 709 = .ok (.aload_n 2, 1) := by decide +kernel
theorem dL_law_710 : decode cL_law 710 = .ok (.aload_n 0, 1) := by decide +kernel
theorem dL_law_711 : decode cL_law 711 = .ok (.iload_n 3, 1) := by decide +kernel
theorem dL_law_712 : decode cL_law 712 = .ok (.iconst 1, 1) := by decide +kernel
theorem dL_law_713 : decode cL_law 713 = .ok (.iadd, 1) := by decide +kernel
theorem dL_law_714 : decode cL_law 714 = .ok (.iaload, 1) := by decide +kernel
theorem dL_law_715 : decode cL_law 715 = .ok (.invokevirtual 85, 3) := by decide +kernel
theorem dL_law_718 : decode cL_law 718 = .ok (.if_icmp .eq 656, 3) := by decide +kernel
theorem dL_law_721 : decode cL_law 721 = .ok (.iconst 0, 1) := by decide +kernel
theorem dL_law_722 : decode cL_law 722 = .ok (.ireturn, 1) := by decide +kernel
theorem dL_law_723 : decode cL_law 723 = .ok (.aload_n 1, 1) := by decide +kernel
theorem dL_law_724 : decode cL_law 724 = .ok (.aload_n 0, 1) := by decide +kernel
theorem dL_law_725 : decode cL_law 725 = .ok (.iload_n 3, 1) := by decide +kernel
theorem dL_law_726 : decode cL_law 726 = .ok (.iconst 1, 1) := by decide +kernel
theorem dL_law_727 : decode cL_law 727 = .ok (.iadd, 1) := by decide +kernel
theorem dL_law_728 : decode cL_law 728 = .ok (.iaload, 1) := by decide +kernel
theorem dL_law_729 : decode cL_law 729 = .ok (.aload_n 0, 1) := by decide +kernel
theorem dL_law_730 : decode cL_law 730 = .ok (.iload_n 3, 1) := by decide +kernel
theorem dL_law_731 : decode cL_law 731 = .ok (.iconst 2, 1) := by decide +kernel
theorem dL_law_732 : decode cL_law 732 = .ok (.iadd, 1) := by decide +kernel
theorem dL_law_733 : decode cL_law 733 = .ok (.iaload, 1) := by decide +kernel
theorem dL_law_734 : decode cL_law 734 = .ok (.aload_n 0, 1) := by decide +kernel
theorem dL_law_735 : decode cL_law 735 = .ok (.iload_n 3, 1) := by decide +kernel
theorem dL_law_736 : decode cL_law 736 = .ok (.iconst 3, 1) := by decide +kernel
theorem dL_law_737 : decode cL_law 737 = .ok (.iadd, 1) := by decide +kernel
theorem dL_law_738 : decode cL_law 738 = .ok (.iaload, 1) := by decide +kernel
theorem dL_law_739 : decode cL_law 739 = .ok (.aload_n 0, 1) := by decide +kernel
theorem dL_law_740 : decode cL_law 740 = .ok (.iload_n 3, 1) := by decide +kernel
theorem dL_law_741 : decode cL_law 741 = .ok (.iconst 4, 1) := by decide +kernel
theorem dL_law_742 : decode cL_law 742 = .ok (.iadd, 1) := by decide +kernel
theorem dL_law_743 : decode cL_law 743 = .ok (.iaload, 1) := by decide +kernel
theorem dL_law_744 : decode cL_law 744 = .ok (.aload_n 0, 1) := by decide +kernel
theorem dL_law_745 : decode cL_law 745 = .ok (.iload_n 3, 1) := by decide +kernel
theorem dL_law_746 : decode cL_law 746 = .ok (.iconst 5, 1) := by decide +kernel
theorem dL_law_747 : decode cL_law 747 = .ok (.iadd, 1) := by decide +kernel
theorem dL_law_748 : decode cL_law 748 = .ok (.iaload, 1) := by decide +kernel
theorem dL_law_749 : decode cL_law 749 = .ok (.aload_n 0, 1) := by decide +kernel
theorem dL_law_750 : decode cL_law 750 = .ok (.iload_n 3, 1) := by decide +kernel
theorem dL_law_751 : decode cL_law 751 = .ok (.bipush 6, 2) := by decide +kernel
theorem dL_law_753 : decode cL_law 753 = .ok (.iadd, 1) := by decide +kernel
theorem dL_law_754 : decode cL_law 754 = .ok (.iaload, 1) := by decide +kernel
theorem dL_law_755 : decode cL_law 755 = .ok (.invokevirtual 86, 3) := by decide +kernel
theorem dL_law_758 : decode cL_law 758 = .ok (.aload_n 2, 1) := by decide +kernel
theorem dL_law_759 : decode cL_law 759 = .ok (.aload_n 0, 1) := by decide +kernel
theorem dL_law_760 : decode cL_law 760 = .ok (.iload_n 3, 1) := by decide +kernel
theorem dL_law_761 : decode cL_law 761 = .ok (.iconst 1, 1) := by decide +kernel
theorem dL_law_762 : decode cL_law 762 = .ok (.iadd, 1) := by decide +kernel
theorem dL_law_763 : decode cL_law 763 = .ok (.iaload, 1) := by decide +kernel
theorem dL_law_764 : decode cL_law 764 = .ok (.aload_n 0, 1) := by decide +kernel
theorem dL_law_765 : decode cL_law 765 = .ok (.iload_n 3, 1) := by decide +kernel
theorem dL_law_766 : decode cL_law 766 = .ok (.iconst 2, 1) := by decide +kernel
theorem dL_law_767 : decode cL_law 767 = .ok (.iadd, 1) := by decide +kernel
theorem dL_law_768 : decode cL_law 768 = .ok (.iaload, 1) := by decide +kernel
theorem dL_law_769 : decode cL_law 769 = .ok (.aload_n 0, 1) := by decide +kernel
theorem dL_law_770 : decode cL_law 770 = .ok (.iload_n 3, 1) := by decide +kernel
theorem dL_law_771 : decode cL_law 771 = .ok (.iconst 3, 1) := by decide +kernel
theorem dL_law_772 : decode cL_law 772 = .ok (.iadd, 1) := by decide +kernel
theorem dL_law_773 : decode cL_law 773 = .ok (.iaload, 1) := by decide +kernel
theorem dL_law_774 : decode cL_law 774 = .ok (.aload_n 0, 1) := by decide +kernel
theorem dL_law_775 : decode cL_law 775 = .ok (.iload_n 3, 1) := by decide +kernel
theorem dL_law_776 : decode cL_law 776 = .ok (.iconst 4, 1) := by decide +kernel
theorem dL_law_777 : decode cL_law 777 = .ok (.iadd, 1) := by decide +kernel
theorem dL_law_778 : decode cL_law 778 = .ok (.iaload, 1) := by decide +kernel
theorem dL_law_779 : decode cL_law 779 = .ok (.aload_n 0, 1) := by decide +kernel
theorem dL_law_780 : decode cL_law 780 = .ok (.iload_n 3, 1) := by decide +kernel
theorem dL_law_781 : decode cL_law 781 = .ok (.iconst 5, 1) := by decide +kernel
theorem dL_law_782 : decode cL_law 782 = .ok (.iadd, 1) := by decide +kernel
theorem dL_law_783 : decode cL_law 783 = .ok (.iaload, 1) := by decide +kernel
theorem dL_law_784 : decode cL_law 784 = .ok (.aload_n 0, 1) := by decide +kernel
theorem dL_law_785 : decode cL_law 785 = .ok (.iload_n 3, 1) := by decide +kernel
theorem dL_law_786 : decode cL_law 786 = .ok (.bipush 6, 2) := by decide +kernel
theorem dL_law_788 : decode cL_law 788 = .ok (.iadd, 1) := by decide +kernel
theorem dL_law_789 : decode cL_law 789 = .ok (.iaload, 1) := by decide +kernel
theorem dL_law_790 : decode cL_law 790 = .ok (.invokevirtual 90, 3) := by decide +kernel
theorem dL_law_793 : decode cL_law 793 = .ok (.if_icmp .eq 581, 3) := by decide +kernel
theorem dL_law_796 : decode cL_law 796 = .ok (.iconst 0, 1) := by decide +kernel
theorem dL_law_797 : decode cL_law 797 = .ok (.ireturn, 1) := by decide +kernel
theorem dL_law_798 : decode cL_law 798 = .ok (.aload_n 1, 1) := by decide +kernel
theorem dL_law_799 : decode cL_law 799 = .ok (.aload_n 0, 1) := by decide +kernel
theorem dL_law_800 : decode cL_law 800 = .ok (.iload_n 3, 1) := by decide +kernel
theorem dL_law_801 : decode cL_law 801 = .ok (.iconst 1, 1) := by decide +kernel
theorem dL_law_802 : decode cL_law 802 = .ok (.iadd, 1) := by decide +kernel
theorem dL_law_803 : decode cL_law 803 = .ok (.iaload, 1) := by decide +kernel
theorem dL_law_804 : decode cL_law 804 = .ok (.invokevirtual 91, 3) := by decide +kernel
theorem dL_law_807 : decode cL_law 807 = .ok (.aload_n 2, 1) := by decide +kernel
theorem dL_law_808 : decode cL_law 808 = .ok (.aload_n 0, 1) := by decide +kernel
theorem dL_law_809 : decode cL_law 809 = .ok (.iload_n 3, 1) := by decide +kernel
theorem dL_law_810 : decode cL_law 810 = .ok (.iconst 1, 1) := by decide +kernel
theorem dL_law_811 : decode cL_law 811 = .ok (.iadd, 1) := by decide +kernel
theorem dL_law_812 : decode cL_law 812 = .ok (.iaload, 1) := by decide +kernel
theorem dL_law_813 : decode cL_law 813 = .ok (.invokevirtual 94, 3) := by decide +kernel
theorem dL_law_816 : decode cL_law 816 = .ok (.if_icmp .eq 558, 3) := by decide +kernel
theorem dL_law_819 : decode cL_law 819 = .ok (.iconst 0, 1) := by decide +kernel
theorem dL_law_820 : decode cL_law 820 = .ok (.ireturn, 1) := by decide +kernel
theorem dL_law_821 : decode cL_law 821 = .ok (.aload_n 1, 1) := by decide +kernel
theorem dL_law_822 : decode cL_law 822 = .ok (.aload_n 0, 1) := by decide +kernel
theorem dL_law_823 : decode cL_law 823 = .ok (.iload_n 3, 1) := by decide +kernel
theorem dL_law_824 : decode cL_law 824 = .ok (.iconst 1, 1) := by decide +kernel
theorem dL_law_825 : decode cL_law 825 = .ok (.iadd, 1) := by decide +kernel
theorem dL_law_826 : decode cL_law 826 = .ok (.iaload, 1) := by decide +kernel
theorem dL_law_827 : decode cL_law 827 = .ok (.aload_n 0, 1) := by decide +kernel
theorem dL_law_828 : decode cL_law 828 = .ok (.iload_n 3, 1) := by decide +kernel
theorem dL_law_829 : decode cL_law 829 = .ok (.iconst 2, 1) := by decide +kernel
theorem dL_law_830 : decode cL_law 830 = .ok (.iadd, 1) := by decide +kernel
theorem dL_law_831 : decode cL_law 831 = .ok (.iaload, 1) := by decide +kernel
theorem dL_law_832 : decode cL_law 832 = .ok (.aload_n 0, 1) := by decide +kernel
theorem dL_law_833 : decode cL_law 833 = .ok (.iload_n 3, 1) := by decide +kernel
theorem dL_law_834 : decode cL_law 834 = .ok (.iconst 3, 1) := by decide +kernel
theorem dL_law_835 : decode cL_law 835 = .ok (.iadd, 1) := by decide +kernel
theorem dL_law_836 : decode cL_law 836 = .ok (.iaload, 1) := by decide +kernel
theorem dL_law_837 : decode cL_law 837 = .ok (.aload_n 0, 1) := by decide +kernel
theorem dL_law_838 : decode cL_law 838 = .ok (.iload_n 3, 1) := by decide +kernel
theorem dL_law_839 : decode cL_law 839 = .ok (.iconst 4, 1) := by decide +kernel
theorem dL_law_840 : decode cL_law 840 = .ok (.iadd, 1) := by decide +kernel
theorem dL_law_841 : decode cL_law 841 = .ok (.iaload, 1) := by decide +kernel
theorem dL_law_842 : decode cL_law 842 = .ok (.aload_n 0, 1) := by decide +kernel
theorem dL_law_843 : decode cL_law 843 = .ok (.iload_n 3, 1) := by decide +kernel
theorem dL_law_844 : decode cL_law 844 = .ok (.iconst 5, 1) := by decide +kernel
theorem dL_law_845 : decode cL_law 845 = .ok (.iadd, 1) := by decide +kernel
theorem dL_law_846 : decode cL_law 846 = .ok (.iaload, 1) := by decide +kernel
theorem dL_law_847 : decode cL_law 847 = .ok (.invokevirtual 95, 3) := by decide +kernel
theorem dL_law_850 : decode cL_law 850 = .ok (.aload_n 2, 1) := by decide +kernel
theorem dL_law_851 : decode cL_law 851 = .ok (.aload_n 0, 1) := by decide +kernel
theorem dL_law_852 : decode cL_law 852 = .ok (.iload_n 3, 1) := by decide +kernel
theorem dL_law_853 : decode cL_law 853 = .ok (.iconst 1, 1) := by decide +kernel
theorem dL_law_854 : decode cL_law 854 = .ok (.iadd, 1) := by decide +kernel
theorem dL_law_855 : decode cL_law 855 = .ok (.iaload, 1) := by decide +kernel
theorem dL_law_856 : decode cL_law 856 = .ok (.aload_n 0, 1) := by decide +kernel
theorem dL_law_857 : decode cL_law 857 = .ok (.iload_n 3, 1) := by decide +kernel
theorem dL_law_858 : decode cL_law 858 = .ok (.iconst 2, 1) := by decide +kernel
theorem dL_law_859 : decode cL_law 859 = .ok (.iadd, 1) := by decide +kernel
theorem dL_law_860 : decode cL_law 860 = .ok (.iaload, 1) := by decide +kernel
theorem dL_law_861 : decode cL_law 861 = .ok (.aload_n 0, 1) := by decide +kernel
theorem dL_law_862 : decode cL_law 862 = .ok (.iload_n 3, 1) := by decide +kernel
theorem dL_law_863 : decode cL_law 863 = .ok (.iconst 3, 1) := by decide +kernel
theorem dL_law_864 : decode cL_law 864 = .ok (.iadd, 1) := by decide +kernel
theorem dL_law_865 : decode cL_law 865 = .ok (.iaload, 1) := by decide +kernel
theorem dL_law_866 : decode cL_law 866 = .ok (.aload_n 0, 1) := by decide +kernel
theorem dL_law_867 : decode cL_law 867 = .ok (.iload_n 3, 1) := by decide +kernel
theorem dL_law_868 : decode cL_law 868 = .ok (.iconst 4, 1) := by decide +kernel
theorem dL_law_869 : decode cL_law 869 = .ok (.iadd, 1) := by decide +kernel
theorem dL_law_870 : decode cL_law 870 = .ok (.iaload, 1) := by decide +kernel
theorem dL_law_871 : decode cL_law 871 = .ok (.aload_n 0, 1) := by decide +kernel
theorem dL_law_872 : decode cL_law 872 = .ok (.iload_n 3, 1) := by decide +kernel
theorem dL_law_873 : decode cL_law 873 = .ok (.iconst 5, 1) := by decide +kernel
theorem dL_law_874 : decode cL_law 874 = .ok (.iadd, 1) := by decide +kernel
theorem dL_law_875 : decode cL_law 875 = .ok (.iaload, 1) := by decide +kernel
theorem dL_law_876 : decode cL_law 876 = .ok (.invokevirtual 99, 3) := by decide +kernel
theorem dL_law_879 : decode cL_law 879 = .ok (.if_icmp .eq 495, 3) := by decide +kernel
theorem dL_law_882 : decode cL_law 882 = .ok (.iconst 0, 1) := by decide +kernel
theorem dL_law_883 : decode cL_law 883 = .ok (.ireturn, 1) := by decide +kernel
theorem dL_law_884 : decode cL_law 884 = .ok (.aload_n 1, 1) := by decide +kernel
theorem dL_law_885 : decode cL_law 885 = .ok (.aload_n 0, 1) := by decide +kernel
theorem dL_law_886 : decode cL_law 886 = .ok (.iload_n 3, 1) := by decide +kernel
theorem dL_law_887 : decode cL_law 887 = .ok (.iconst 1, 1) := by decide +kernel
theorem dL_law_888 : decode cL_law 888 = .ok (.iadd, 1) := by decide +kernel
theorem dL_law_889 : decode cL_law 889 = .ok (.iaload, 1) := by decide +kernel
theorem dL_law_890 : decode cL_law 890 = .ok (.aload_n 0, 1) := by decide +kernel
theorem dL_law_891 : decode cL_law 891 = .ok (.iload_n 3, 1) := by decide +kernel
theorem dL_law_892 : decode cL_law 892 = .ok (.iconst 2, 1) := by decide +kernel
theorem dL_law_893 : decode cL_law 893 = .ok (.iadd, 1) := by decide +kernel
theorem dL_law_894 : decode cL_law 894 = .ok (.iaload, 1) := by decide +kernel
theorem dL_law_895 : decode cL_law 895 = .ok (.aload_n 0, 1) := by decide +kernel
theorem dL_law_896 : decode cL_law 896 = .ok (.iload_n 3, 1) := by decide +kernel
theorem dL_law_897 : decode cL_law 897 = .ok (.iconst 3, 1) := by decide +kernel
theorem dL_law_898 : decode cL_law 898 = .ok (.iadd, 1) := by decide +kernel
theorem dL_law_899 : decode cL_law 899 = .ok (.iaload, 1) := by decide +kernel
theorem dL_law_900 : decode cL_law 900 = .ok (.invokevirtual 100, 3) := by decide +kernel
theorem dL_law_903 : decode cL_law 903 = .ok (.aload_n 2, 1) := by decide +kernel
theorem dL_law_904 : decode cL_law 904 = .ok (.aload_n 0, 1) := by decide +kernel
theorem dL_law_905 : decode cL_law 905 = .ok (.iload_n 3, 1) := by decide +kernel
theorem dL_law_906 : decode cL_law 906 = .ok (.iconst 1, 1) := by decide +kernel
theorem dL_law_907 : decode cL_law 907 = .ok (.iadd, 1) := by decide +kernel
theorem dL_law_908 : decode cL_law 908 = .ok (.iaload, 1) := by decide +kernel
theorem dL_law_909 : decode cL_law 909 = .ok (.aload_n 0, 1) := by decide +kernel
theorem dL_law_910 : decode cL_law 910 = .ok (.iload_n 3, 1) := by decide +kernel
theorem dL_law_911 : decode cL_law 911 = .ok (.iconst 2, 1) := by decide +kernel
theorem dL_law_912 : decode cL_law 912 = .ok (.iadd, 1) := by decide +kernel
theorem dL_law_913 : decode cL_law 913 = .ok (.iaload, 1) := by decide +kernel
theorem dL_law_914 : decode cL_law 914 = .ok (.aload_n 0, 1) := by decide +kernel
theorem dL_law_915 : decode cL_law 915 = .ok (.iload_n 3, 1) := by decide +kernel
theorem dL_law_916 : decode cL_law 916 = .ok (.iconst 3, 1) := by decide +kernel
theorem dL_law_917 : decode cL_law 917 = .ok (.iadd, 1) := by decide +kernel
theorem dL_law_918 : decode cL_law 918 = .ok (.iaload, 1) := by decide +kernel
theorem dL_law_919 : decode cL_law 919 = .ok (.invokevirtual 103, 3) := by decide +kernel
theorem dL_law_922 : decode cL_law 922 = .ok (.if_icmp .eq 452, 3) := by decide +kernel
theorem dL_law_925 : decode cL_law 925 = .ok (.iconst 0, 1) := by decide +kernel
theorem dL_law_926 : decode cL_law 926 = .ok (.ireturn, 1) := by decide +kernel
theorem dL_law_927 : decode cL_law 927 = .ok (.aload_n 1, 1) := by decide +kernel
theorem dL_law_928 : decode cL_law 928 = .ok (.aload_n 0, 1) := by decide +kernel
theorem dL_law_929 : decode cL_law 929 = .ok (.iload_n 3, 1) := by decide +kernel
theorem dL_law_930 : decode cL_law 930 = .ok (.iconst 1, 1) := by decide +kernel
theorem dL_law_931 : decode cL_law 931 = .ok (.iadd, 1) := by decide +kernel
theorem dL_law_932 : decode cL_law 932 = .ok (.iaload, 1) := by decide +kernel
theorem dL_law_933 : decode cL_law 933 = .ok (.invokevirtual 104, 3) := by decide +kernel
theorem dL_law_936 : decode cL_law 936 = .ok (.aload_n 2, 1) := by decide +kernel
theorem dL_law_937 : decode cL_law 937 = .ok (.aload_n 0, 1) := by decide +kernel
theorem dL_law_938 : decode cL_law 938 = .ok (.iload_n 3, 1) := by decide +kernel
theorem dL_law_939 : decode cL_law 939 = .ok (.iconst 1, 1) := by decide +kernel
theorem dL_law_940 : decode cL_law 940 = .ok (.iadd, 1) := by decide +kernel
theorem dL_law_941 : decode cL_law 941 = .ok (.iaload, 1) := by decide +kernel
theorem dL_law_942 : decode cL_law 942 = .ok (.invokevirtual 107, 3) := by decide +kernel
theorem dL_law_945 : decode cL_law 945 = .ok (.if_icmp .eq 429, 3) := by decide +kernel
theorem dL_law_948 : decode cL_law 948 = .ok (.iconst 0, 1) := by decide +kernel
theorem dL_law_949 : decode cL_law 949 = .ok (.ireturn, 1) := by decide +kernel
theorem dL_law_950 : decode cL_law 950 = .ok (.aload_n 1, 1) := by decide +kernel
theorem dL_law_951 : decode cL_law 951 = .ok (.aload_n 0, 1) := by decide +kernel
theorem dL_law_952 : decode cL_law 952 = .ok (.iload_n 3, 1) := by decide +kernel
theorem dL_law_953 : decode cL_law 953 = .ok (.iconst 1, 1) := by decide +kernel
theorem dL_law_954 : decode cL_law 954 = .ok (.iadd, 1) := by decide +kernel
theorem dL_law_955 : decode cL_law 955 = .ok (.iaload, 1) := by decide +kernel
theorem dL_law_956 : decode cL_law 956 = .ok (.aload_n 0, 1) := by decide +kernel
theorem dL_law_957 : decode cL_law 957 = .ok (.iload_n 3, 1) := by decide +kernel
theorem dL_law_958 : decode cL_law 958 = .ok (.iconst 2, 1) := by decide +kernel
theorem dL_law_959 : decode cL_law 959 = .ok (.iadd, 1) := by decide +kernel
theorem dL_law_960 : decode cL_law 960 = .ok (.iaload, 1) := by decide +kernel
theorem dL_law_961 : decode cL_law 961 = .ok (.invokevirtual 108, 3) := by decide +kernel
theorem dL_law_964 : decode cL_law 964 = .ok (.aload_n 2, 1) := by decide +kernel
theorem dL_law_965 : decode cL_law 965 = .ok (.aload_n 0, 1) := by decide +kernel
theorem dL_law_966 : decode cL_law 966 = .ok (.iload_n 3, 1) := by decide +kernel
theorem dL_law_967 : decode cL_law 967 = .ok (.iconst 1, 1) := by decide +kernel
theorem dL_law_968 : decode cL_law 968 = .ok (.iadd, 1) := by decide +kernel
theorem dL_law_969 : decode cL_law 969 = .ok (.iaload, 1) := by decide +kernel
theorem dL_law_970 : decode cL_law 970 = .ok (.aload_n 0, 1) := by decide +kernel
theorem dL_law_971 : decode cL_law 971 = .ok (.iload_n 3, 1) := by decide +kernel
theorem dL_law_972 : decode cL_law 972 = .ok (.iconst 2, 1) := by decide +kernel
theorem dL_law_973 : decode cL_law 973 = .ok (.iadd, 1) := by decide +kernel
theorem dL_law_974 : decode cL_law 974 = .ok (.iaload, 1) := by decide +kernel
theorem dL_law_975 : decode cL_law 975 = .ok (.invokevirtual 111, 3) := by decide +kernel
theorem dL_law_978 : decode cL_law 978 = .ok (.if_icmp .eq 396, 3) := by decide +kernel
theorem dL_law_981 : decode cL_law 981 = .ok (.iconst 0, 1) := by decide +kernel
theorem dL_law_982 : decode cL_law 982 = .ok (.ireturn, 1) := by decide +kernel
theorem dL_law_983 : decode cL_law 983 = .ok (.aload_n 1, 1) := by decide +kernel
theorem dL_law_984 : decode cL_law 984 = .ok (.aload_n 0, 1) := by decide +kernel
theorem dL_law_985 : decode cL_law 985 = .ok (.iload_n 3, 1) := by decide +kernel
theorem dL_law_986 : decode cL_law 986 = .ok (.iconst 1, 1) := by decide +kernel
theorem dL_law_987 : decode cL_law 987 = .ok (.iadd, 1) := by decide +kernel
theorem dL_law_988 : decode cL_law 988 = .ok (.iaload, 1) := by decide +kernel
theorem dL_law_989 : decode cL_law 989 = .ok (.invokevirtual 112, 3) := by decide +kernel
theorem dL_law_992 : decode cL_law 992 = .ok (.aload_n 2, 1) := by decide +kernel
theorem dL_law_993 : decode cL_law 993 = .ok (.aload_n 0, 1) := by decide +kernel
theorem dL_law_994 : decode cL_law 994 = .ok (.iload_n 3, 1) := by decide +kernel
theorem dL_law_995 : decode cL_law 995 = .ok (.iconst 1, 1) := by decide +kernel
theorem dL_law_996 : decode cL_law 996 = .ok (.iadd, 1) := by decide +kernel
theorem dL_law_997 : decode cL_law 997 = .ok (.iaload, 1) := by decide +kernel
theorem dL_law_998 : decode cL_law 998 = .ok (.invokevirtual 115, 3) := by decide +kernel
theorem dL_law_1001 : decode cL_law 1001 = .ok (.if_icmp .eq 373, 3) := by decide +kernel
theorem dL_law_1004 : decode cL_law 1004 = .ok (.iconst 0, 1) := by decide +kernel
theorem dL_law_1005 : decode cL_law 1005 = .ok (.ireturn, 1) := by decide +kernel
theorem dL_law_1006 : decode cL_law 1006 = .ok (.aload_n 1, 1) := by decide +kernel
theorem dL_law_1007 : decode cL_law 1007 = .ok (.aload_n 0, 1) := by decide +kernel
theorem dL_law_1008 : decode cL_law 1008 = .ok (.iload_n 3, 1) := by decide +kernel
theorem dL_law_1009 : decode cL_law 1009 = .ok (.iconst 1, 1) := by decide +kernel
theorem dL_law_1010 : decode cL_law 1010 = .ok (.iadd, 1) := by decide +kernel
theorem dL_law_1011 : decode cL_law 1011 = .ok (.iaload, 1) := by decide +kernel
theorem dL_law_1012 : decode cL_law 1012 = .ok (.invokevirtual 116, 3) := by decide +kernel
theorem dL_law_1015 : decode cL_law 1015 = .ok (.aload_n 2, 1) := by decide +kernel
theorem dL_law_1016 : decode cL_law 1016 = .ok (.aload_n 0, 1) := by decide +kernel
theorem dL_law_1017 : decode cL_law 1017 = .ok (.iload_n 3, 1) := by decide +kernel
end
section
theorem dL_law_1018 : decode cL_law 1018 = .ok (.iconst 1, 1) := by decide +kernel
theorem dL_law_1019 : decode cL_law 1019 = .ok (.iadd, 1) := by decide +kernel
theorem dL_law_1020 : decode cL_law 1020 = .ok (.iaload, 1) := by decide +kernel
theorem dL_law_1021 : decode cL_law 1021 = .ok (.invokevirtual 120, 3) := by decide +kernel
theorem dL_law_1024 : decode cL_law 1024 = .ok (.lcmp, 1) := by decide +kernel
theorem dL_law_1025 : decode cL_law 1025 = .ok (.ifCond .eq 349, 3) := by decide +kernel
theorem dL_law_1028 : decode cL_law 1028 = .ok (.iconst 0, 1) := by decide +kernel
theorem dL_law_1029 : decode cL_law 1029 = .ok (.ireturn, 1) := by decide +kernel
theorem dL_law_1030 : decode cL_law 1030 = .ok (.aload_n 1, 1) := by decide +kernel
theorem dL_law_1031 : decode cL_law 1031 = .ok (.aload_n 0, 1) := by decide +kernel
theorem dL_law_1032 : decode cL_law 1032 = .ok (.iload_n 3, 1) := by decide +kernel
theorem dL_law_1033 : decode cL_law 1033 = .ok (.iconst 1, 1) := by decide +kernel
theorem dL_law_1034 : decode cL_law 1034 = .ok (.iadd, 1) := by decide +kernel
theorem dL_law_1035 : decode cL_law 1035 = .ok (.iaload, 1) := by decide +kernel
theorem dL_law_1036 : decode cL_law 1036 = .ok (.aload_n 0, 1) := by decide +kernel
theorem dL_law_1037 : decode cL_law 1037 = .ok (.iload_n 3, 1) := by decide +kernel
theorem dL_law_1038 : decode cL_law 1038 = .ok (.iconst 2, 1) := by decide +kernel
theorem dL_law_1039 : decode cL_law 1039 = .ok (.iadd, 1) := by decide +kernel
theorem dL_law_1040 : decode cL_law 1040 = .ok (.iaload, 1) := by decide +kernel
theorem dL_law_1041 : decode cL_law 1041 = .ok (.aload_n 0, 1) := by decide +kernel
theorem dL_law_1042 : decode cL_law 1042 = .ok (.iload_n 3, 1) := by decide +kernel
theorem dL_law_1043 : decode cL_law 1043 = .ok (.iconst 3, 1) := by decide +kernel
theorem dL_law_1044 : decode cL_law 1044 = .ok (.iadd, 1) := by decide +kernel
theorem dL_law_1045 : decode cL_law 1045 = .ok (.iaload, 1) := by decide +kernel
theorem dL_law_1046 : decode cL_law 1046 = .ok (.invokevirtual 121, 3) := by decide +kernel
theorem dL_law_1049 : decode cL_law 1049 = .ok (.aload_n 2, 1) := by decide +kernel
theorem dL_law_1050 : decode cL_law 1050 = .ok (.aload_n 0, 1) := by decide +kernel
theorem dL_law_1051 : decode cL_law 1051 = .ok (.iload_n 3, 1) := by decide +kernel
theorem dL_law_1052 : decode cL_law 1052 = .ok (.iconst 1, 1) := by decide +kernel
theorem dL_law_1053 : decode cL_law 1053 = .ok (.iadd, 1) := by decide +kernel
theorem dL_law_1054 : decode cL_law 1054 = .ok (.iaload, 1) := by decide +kernel
theorem dL_law_1055 : decode cL_law 1055 = .ok (.aload_n 0, 1) := by decide +kernel
theorem dL_law_1056 : decode cL_law 1056 = .ok (.iload_n 3, 1) := by decide +kernel
theorem dL_law_1057 : decode cL_law 1057 = .ok (.iconst 2, 1) := by decide +kernel
theorem dL_law_1058 : decode cL_law 1058 = .ok (.iadd, 1) := by decide +kernel
theorem dL_law_1059 : decode cL_law 1059 = .ok (.iaload, 1) := by decide +kernel
theorem dL_law_1060 : decode cL_law 1060 = .ok (.aload_n 0, 1) := by decide +kernel
theorem dL_law_1061 : decode cL_law 1061 = .ok (.iload_n 3, 1) := by decide +kernel
theorem dL_law_1062 : decode cL_law 1062 = .ok (.iconst 3, 1) := by decide +kernel
theorem dL_law_1063 : decode cL_law 1063 = .ok (.iadd, 1) := by decide +kernel
theorem dL_law_1064 : decode cL_law 1064 = .ok (.iaload, 1) := by decide +kernel
theorem dL_law_1065 : decode cL_law 1065 = .ok (.invokevirtual 124, 3) := by decide +kernel
theorem dL_law_1068 : decode cL_law 1068 = .ok (.if_icmp .eq 306, 3) := by decide +kernel
theorem dL_law_1071 : decode cL_law 1071 = .ok (.iconst 0, 1) := by decide +kernel
theorem dL_law_1072 : decode cL_law 1072 = .ok (.ireturn, 1) := by decide +kernel
theorem dL_law_1073 : decode cL_law 1073 = .ok (.aload_n 1, 1) := by decide +kernel
theorem dL_law_1074 : decode cL_law 1074 = .ok (.aload_n 0, 1) := by decide +kernel
theorem dL_law_1075 : decode cL_law 1075 = .ok (.iload_n 3, 1) := by decide +kernel
theorem dL_law_1076 : decode cL_law 1076 = .ok (.iconst 1, 1) := by decide +kernel
theorem dL_law_1077 : decode cL_law 1077 = .ok (.iadd, 1) := by decide +kernel
theorem dL_law_1078 : decode cL_law 1078 = .ok (.iaload, 1) := by decide +kernel
theorem dL_law_1079 : decode cL_law 1079 = .ok (.invokevirtual 125, 3) := by decide +kernel
theorem dL_law_1082 : decode cL_law 1082 = .ok (.aload_n 2, 1) := by decide +kernel
theorem dL_law_1083 : decode cL_law 1083 = .ok (.aload_n 0, 1) := by decide +kernel
theorem dL_law_1084 : decode cL_law 1084 = .ok (.iload_n 3, 1) := by decide +kernel
theorem dL_law_1085 : decode cL_law 1085 = .ok (.iconst 1, 1) := by decide +kernel
theorem dL_law_1086 : decode cL_law 1086 = .ok (.iadd, 1) := by decide +kernel
theorem dL_law_1087 : decode cL_law 1087 = .ok (.iaload, 1) := by decide +kernel
theorem dL_law_1088 : decode cL_law 1088 = .ok (.invokevirtual 128, 3) := by decide +kernel
theorem dL_law_1091 : decode cL_law 1091 = .ok (.if_icmp .eq 283, 3) := by decide +kernel
theorem dL_law_1094 : decode cL_law 1094 = .ok (.iconst 0, 1) := by decide +kernel
theorem dL_law_1095 : decode cL_law 1095 = .ok (.ireturn, 1) := by decide +kernel
theorem dL_law_1096 : decode cL_law 1096 = .ok (.aload_n 1, 1) := by decide +kernel
theorem dL_law_1097 : decode cL_law 1097 = .ok (.aload_n 0, 1) := by decide +kernel
theorem dL_law_1098 : decode cL_law 1098 = .ok (.iload_n 3, 1) := by decide +kernel
theorem dL_law_1099 : decode cL_law 1099 = .ok (.iconst 1, 1) := by decide +kernel
theorem dL_law_1100 : decode cL_law 1100 = .ok (.iadd, 1) := by decide +kernel
theorem dL_law_1101 : decode cL_law 1101 = .ok (.iaload, 1) := by decide +kernel
theorem dL_law_1102 : decode cL_law 1102 = .ok (.aload_n 0, 1) := by decide +kernel
theorem dL_law_1103 : decode cL_law 1103 = .ok (.iload_n 3, 1) := by decide +kernel
theorem dL_law_1104 : decode cL_law 1104 = .ok (.iconst 2, 1) := by decide +kernel
theorem dL_law_1105 : decode cL_law 1105 = .ok (.iadd, 1) := by decide +kernel
theorem dL_law_1106 : decode cL_law 1106 = .ok (.iaload, 1) := by decide +kernel
theorem dL_law_1107 : decode cL_law 1107 = .ok (.aload_n 0, 1) := by decide +kernel
theorem dL_law_1108 : decode cL_law 1108 = .ok (.iload_n 3, 1) := by decide +kernel
theorem dL_law_1109 : decode cL_law 1109 = .ok (.iconst 3, 1) := by decide +kernel
theorem dL_law_1110 : decode cL_law 1110 = .ok (.iadd, 1) := by decide +kernel
theorem dL_law_1111 : decode cL_law 1111 = .ok (.iaload, 1) := by decide +kernel
theorem dL_law_1112 : decode cL_law 1112 = .ok (.invokevirtual 129, 3) := by decide +kernel
theorem dL_law_1115 : decode cL_law 1115 = .ok (.aload_n 2, 1) := by decide +kernel
theorem dL_law_1116 : decode cL_law 1116 = .ok (.aload_n 0, 1) := by decide +kernel
theorem dL_law_1117 : decode cL_law 1117 = .ok (.iload_n 3, 1) := by decide +kernel
theorem dL_law_1118 : decode cL_law 1118 = .ok (.iconst 1, 1) := by decide +kernel
theorem dL_law_1119 : decode cL_law 1119 = .ok (.iadd, 1) := by decide +kernel
theorem dL_law_1120 : decode cL_law 1120 = .ok (.iaload, 1) := by decide +kernel
theorem dL_law_1121 : decode cL_law 1121 = .ok (.aload_n 0, 1) := by decide +kernel
theorem dL_law_1122 : decode cL_law 1122 = .ok (.iload_n 3, 1) := by decide +kernel
theorem dL_law_1123 : decode cL_law 1123 = .ok (.iconst 2, 1) := by decide +kernel
theorem dL_law_1124 : decode cL_law 1124 = .ok (.iadd, 1) := by decide +kernel
theorem dL_law_1125 : decode cL_law 1125 = .ok (.iaload, 1) := by decide +kernel
theorem dL_law_1126 : decode cL_law 1126 = .ok (.aload_n 0, 1) := by decide +kernel
theorem dL_law_1127 : decode cL_law 1127 = .ok (.iload_n 3, 1) := by decide +kernel
theorem dL_law_1128 : decode cL_law 1128 = .ok (.iconst 3, 1) := by decide +kernel
theorem dL_law_1129 : decode cL_law 1129 = .ok (.iadd, 1) := by decide +kernel
theorem dL_law_1130 : decode cL_law 1130 = .ok (.iaload, 1) := by decide +kernel
theorem dL_law_1131 : decode cL_law 1131 = .ok (.invokevirtual 132, 3) := by decide +kernel
theorem dL_law_1134 : decode cL_law 1134 = .ok (.if_icmp .eq 240, 3) := by decide +kernel
theorem dL_law_1137 : decode cL_law 1137 = .ok (.iconst 0, 1) := by decide +kernel
theorem dL_law_1138 : decode cL_law 1138 = .ok (.ireturn, 1) := by decide +kernel
theorem dL_law_1139 : decode cL_law 1139 = .ok (.aload_n 1, 1) := by decide +kernel
theorem dL_law_1140 : decode cL_law 1140 = .ok (.aload_n 0, 1) := by decide +kernel
theorem dL_law_1141 : decode cL_law 1141 = .ok (.iload_n 3, 1) := by decide +kernel
theorem dL_law_1142 : decode cL_law 1142 = .ok (.iconst 1, 1) := by decide +kernel
theorem dL_law_1143 : decode cL_law 1143 = .ok (.iadd, 1) := by decide +kernel
theorem dL_law_1144 : decode cL_law 1144 = .ok (.iaload, 1) := by decide +kernel
theorem dL_law_1145 : decode cL_law 1145 = .ok (.aload_n 0, 1) := by decide +kernel
theorem dL_law_1146 : decode cL_law 1146 = .ok (.iload_n 3, 1) := by decide +kernel
theorem dL_law_1147 : decode cL_law 1147 = .ok (.iconst 2, 1) := by decide +kernel
theorem dL_law_1148 : decode cL_law 1148 = .ok (.iadd, 1) := by decide +kernel
theorem dL_law_1149 : decode cL_law 1149 = .ok (.iaload, 1) := by decide +kernel
theorem dL_law_1150 : decode cL_law 1150 = .ok (.aload_n 0, 1) := by decide +kernel
theorem dL_law_1151 : decode cL_law 1151 = .ok (.iload_n 3, 1) := by decide +kernel
theorem dL_law_1152 : decode cL_law 1152 = .ok (.iconst 3, 1) := by decide +kernel
theorem dL_law_1153 : decode cL_law 1153 = .ok (.iadd, 1) := by decide +kernel
theorem dL_law_1154 : decode cL_law 1154 = .ok (.iaload, 1) := by decide +kernel
theorem dL_law_1155 : decode cL_law 1155 = .ok (.invokevirtual 133, 3) := by decide +kernel
theorem dL_law_1158 : decode cL_law 1158 = .ok (.aload_n 2, 1) := by decide +kernel
theorem dL_law_1159 : decode cL_law 1159 = .ok (.aload_n 0, 1) := by decide +kernel
theorem dL_law_1160 : decode cL_law 1160 = .ok (.iload_n 3, 1) := by decide +kernel
theorem dL_law_1161 : decode cL_law 1161 = .ok (.iconst 1, 1) := by decide +kernel
theorem dL_law_1162 : decode cL_law 1162 = .ok (.iadd, 1) := by decide +kernel
theorem dL_law_1163 : decode cL_law 1163 = .ok (.iaload, 1) := by decide +kernel
theorem dL_law_1164 : decode cL_law 1164 = .ok (.aload_n 0, 1) := by decide +kernel
theorem dL_law_1165 : decode cL_law 1165 = .ok (.iload_n 3, 1) := by decide +kernel
theorem dL_law_1166 : decode cL_law 1166 = .ok (.iconst 2, 1) := by decide +kernel
theorem dL_law_1167 : decode cL_law 1167 = .ok (.iadd, 1) := by decide +kernel
theorem dL_law_1168 : decode cL_law 1168 = .ok (.iaload, 1) := by decide +kernel
theorem dL_law_1169 : decode cL_law 1169 = .ok (.aload_n 0, 1) := by decide +kernel
theorem dL_law_1170 : decode cL_law 1170 = .ok (.iload_n 3, 1) := by decide +kernel
theorem dL_law_1171 : decode cL_law 1171 = .ok (.iconst 3, 1) := by decide +kernel
theorem dL_law_1172 : decode cL_law 1172 = .ok (.iadd, 1) := by decide +kernel
theorem dL_law_1173 : decode cL_law 1173 = .ok (.iaload, 1) := by decide +kernel
theorem dL_law_1174 : decode cL_law 1174 = .ok (.invokevirtual 137, 3) := by decide +kernel
theorem dL_law_1177 : decode cL_law 1177 = .ok (.lcmp, 1) := by decide +kernel
theorem dL_law_1178 : decode cL_law 1178 = .ok (.ifCond .eq 196, 3) := by decide +kernel
theorem dL_law_1181 : decode cL_law 1181 = .ok (.iconst 0, 1) := by decide +kernel
theorem dL_law_1182 : decode cL_law 1182 = .ok (.ireturn, 1) := by decide +kernel
theorem dL_law_1183 : decode cL_law 1183 = .ok (.aload_n 1, 1) := by decide +kernel
theorem dL_law_1184 : decode cL_law 1184 = .ok (.aload_n 0, 1) := by decide +kernel
theorem dL_law_1185 : decode cL_law 1185 = .ok (.iload_n 3, 1) := by decide +kernel
theorem dL_law_1186 : decode cL_law 1186 = .ok (.iconst 1, 1) := by decide +kernel
theorem dL_law_1187 : decode cL_law 1187 = .ok (.iadd, 1) := by decide +kernel
theorem dL_law_1188 : decode cL_law 1188 = .ok (.iaload, 1) := by decide +kernel
theorem dL_law_1189 : decode cL_law 1189 = .ok (.aload_n 0, 1) := by decide +kernel
theorem dL_law_1190 : decode cL_law 1190 = .ok (.iload_n 3, 1) := by decide +kernel
theorem dL_law_1191 : decode cL_law 1191 = .ok (.iconst 2, 1) := by decide +kernel
theorem dL_law_1192 : decode cL_law 1192 = .ok (.iadd, 1) := by decide +kernel
theorem dL_law_1193 : decode cL_law 1193 = .ok (.iaload, 1) := by decide +kernel
theorem dL_law_1194 : decode cL_law 1194 = .ok (.aload_n 0, 1) := by decide +kernel
theorem dL_law_1195 : decode cL_law 1195 = .ok (.iload_n 3, 1) := by decide +kernel
theorem dL_law_1196 : decode cL_law 1196 = .ok (.iconst 3, 1) := by decide +kernel
theorem dL_law_1197 : decode cL_law 1197 = .ok (.iadd, 1) := by decide +kernel
theorem dL_law_1198 : decode cL_law 1198 = .ok (.iaload, 1) := by decide +kernel
theorem dL_law_1199 : decode cL_law 1199 = .ok (.aload_n 0, 1) := by decide +kernel
theorem dL_law_1200 : decode cL_law 1200 = .ok (.iload_n 3, 1) := by decide +kernel
theorem dL_law_1201 : decode cL_law 1201 = .ok (.iconst 4, 1) := by decide +kernel
theorem dL_law_1202 : decode cL_law 1202 = .ok (.iadd, 1) := by decide +kernel
theorem dL_law_1203 : decode cL_law 1203 = .ok (.iaload, 1) := by decide +kernel
theorem dL_law_1204 : decode cL_law 1204 = .ok (.aload_n 0, 1) := by decide +kernel
theorem dL_law_1205 : decode cL_law 1205 = .ok (.iload_n 3, 1) := by decide +kernel
theorem dL_law_1206 : decode cL_law 1206 = .ok (.iconst 5, 1) := by decide +kernel
theorem dL_law_1207 : decode cL_law 1207 = .ok (.iadd, 1) := by decide +kernel
theorem dL_law_1208 : decode cL_law 1208 = .ok (.iaload, 1) := by decide +kernel
theorem dL_law_1209 : decode cL_law 1209 = .ok (.invokevirtual 138, 3) := by decide +kernel
theorem dL_law_1212 : decode cL_law 1212 = .ok (.aload_n 2, 1) := by decide +kernel
theorem dL_law_1213 : decode cL_law 1213 = .ok (.aload_n 0, 1) := by decide +kernel
theorem dL_law_1214 : decode cL_law 1214 = .ok (.iload_n 3, 1) := by decide +kernel
theorem dL_law_1215 : decode cL_law 1215 = .ok (.iconst 1, 1) := by decide +kernel
theorem dL_law_1216 : decode cL_law 1216 = .ok (.iadd, 1) := by decide +kernel
theorem dL_law_1217 : decode cL_law 1217 = .ok (.iaload, 1) := by decide +kernel
theorem dL_law_1218 : decode cL_law 1218 = .ok (.aload_n 0, 1) := by decide +kernel
theorem dL_law_1219 : decode cL_law 1219 = .ok (.iload_n 3, 1) := by decide +kernel
theorem dL_law_1220 : decode cL_law 1220 = .ok (.iconst 2, 1) := by decide +kernel
theorem dL_law_1221 : decode cL_law 1221 = .ok (.iadd, 1) := by decide +kernel
theorem dL_law_1222 : decode cL_law 1222 = .ok (.iaload, 1) := by decide +kernel
theorem dL_law_1223 : decode cL_law 1223 = .ok (.aload_n 0, 1) := by decide +kernel
theorem dL_law_1224 : decode cL_law 1224 = .ok (.iload_n 3, 1) := by decide +kernel
theorem dL_law_1225 : decode cL_law 1225 = .ok (.iconst 3, 1) := by decide +kernel
theorem dL_law_1226 : decode cL_law 1226 = .ok (.iadd, 1) := by decide +kernel
theorem dL_law_1227 : decode cL_law 1227 = .ok (.iaload, 1) := by decide +kernel
theorem dL_law_1228 : decode cL_law 1228 = .ok (.aload_n 0, 1) := by decide +kernel
theorem dL_law_1229 : decode cL_law 1229 = .ok (.iload_n 3, 1) := by decide +kernel
theorem dL_law_1230 : decode cL_law 1230 = .ok (.iconst 4, 1) := by decide +kernel
theorem dL_law_1231 : decode cL_law 1231 = .ok (.iadd, 1) := by decide +kernel
theorem dL_law_1232 : decode cL_law 1232 = .ok (.iaload, 1) := by decide +kernel
theorem dL_law_1233 : decode cL_law 1233 = .ok (.aload_n 0, 1) := by decide +kernel
theorem dL_law_1234 : decode cL_law 1234 = .ok (.iload_n 3, 1) := by decide +kernel
theorem dL_law_1235 : decode cL_law 1235 = .ok (.iconst 5, 1) := by decide +kernel
theorem dL_law_1236 : decode cL_law 1236 = .ok (.iadd, 1) := by decide +kernel
theorem dL_law_1237 : decode cL_law 1237 = .ok (.iaload, 1) := by decide +kernel
theorem dL_law_1238 : decode cL_law 1238 = .ok (.invokevirtual 141, 3) := by decide +kernel
theorem dL_law_1241 : decode cL_law 1241 = .ok (.if_icmp .eq 133, 3) := by decide +kernel
theorem dL_law_1244 : decode cL_law 1244 = .ok (.iconst 0, 1) := by decide +kernel
theorem dL_law_1245 : decode cL_law 1245 = .ok (.ireturn, 1) := by decide +kernel
theorem dL_law_1246 : decode cL_law 1246 = .ok (.aload_n 1, 1) := by decide +kernel
theorem dL_law_1247 : decode cL_law 1247 = .ok (.aload_n 0, 1) := by decide +kernel
theorem dL_law_1248 : decode cL_law 1248 = .ok (.iload_n 3, 1) := by decide +kernel
theorem dL_law_1249 : decode cL_law 1249 = .ok (.iconst 1, 1) := by decide +kernel
theorem dL_law_1250 : decode cL_law 1250 = .ok (.iadd, 1) := by decide +kernel
theorem dL_law_1251 : decode cL_law 1251 = .ok (.iaload, 1) := by decide +kernel
theorem dL_law_1252 : decode cL_law 1252 = .ok (.invokevirtual 142, 3) := by decide +kernel
theorem dL_law_1255 : decode cL_law 1255 = .ok (.aload_n 2, 1) := by decide +kernel
theorem dL_law_1256 : decode cL_law 1256 = .ok (.aload_n 0, 1) := by decide +kernel
theorem dL_law_1257 : decode cL_law 1257 = .ok (.iload_n 3, 1) := by decide +kernel
theorem dL_law_1258 : decode cL_law 1258 = .ok (.iconst 1, 1) := by decide +kernel
theorem dL_law_1259 : decode cL_law 1259 = .ok (.iadd, 1) := by decide +kernel
theorem dL_law_1260 : decode cL_law 1260 = .ok (.iaload, 1) := by decide +kernel
theorem dL_law_1261 : decode cL_law 1261 = .ok (.invokevirtual 145, 3) := by decide +kernel
theorem dL_law_1264 : decode cL_law 1264 = .ok (.if_icmp .eq 110, 3) := by decide +kernel
theorem dL_law_1267 : decode cL_law 1267 = .ok (.iconst 0, 1) := by decide +kernel
theorem dL_law_1268 : decode cL_law 1268 = .ok (.ireturn, 1) := by decide +kernel
theorem dL_law_1269 : decode cL_law 1269 = .ok (.aload_n 1, 1) := by decide +kernel
theorem dL_law_1270 : decode cL_law 1270 = .ok (.aload_n 0, 1) := by decide +kernel
theorem dL_law_1271 : decode cL_law 1271 = .ok (.iload_n 3, 1) := by decide +kernel
theorem dL_law_1272 : decode cL_law 1272 = .ok (.iconst 1, 1) := by decide +kernel
theorem dL_law_1273 : decode cL_law 1273 = .ok (.iadd, 1) := by decide +kernel
theorem dL_law_1274 : decode cL_law 1274 = .ok (.iaload, 1) := by decide +kernel
theorem dL_law_1275 : decode cL_law 1275 = .ok (.invokevirtual 146, 3) := by decide +kernel
theorem dL_law_1278 : decode cL_law 1278 = .ok (.aload_n 2, 1) := by decide +kernel
theorem dL_law_1279 : decode cL_law 1279 = .ok (.aload_n 0, 1) := by decide +kernel
theorem dL_law_1280 : decode cL_law 1280 = .ok (.iload_n 3, 1) := by decide +kernel
theorem dL_law_1281 : decode cL_law 1281 = .ok (.iconst 1, 1) := by decide +kernel
theorem dL_law_1282 : decode cL_law 1282 = .ok (.iadd, 1) := by decide +kernel
theorem dL_law_1283 : decode cL_law 1283 = .ok (.iaload, 1) := by decide +kernel
theorem dL_law_1284 : decode cL_law 1284 = .ok (.invokevirtual 149, 3) := by decide +kernel
theorem dL_law_1287 : decode cL_law 1287 = .ok (.if_icmp .eq 87, 3) := by decide +kernel
theorem dL_law_1290 : decode cL_law 1290 = .ok (.iconst 0, 1) := by decide +kernel
theorem dL_law_1291 : decode cL_law 1291 = .ok (.ireturn, 1) := by decide +kernel
theorem dL_law_1292 : decode cL_law 1292 = .ok (.aload_n 1, 1) := by decide +kernel
theorem dL_law_1293 : decode cL_law 1293 = .ok (.aload_n 0, 1) := by decide +kernel
theorem dL_law_1294 : decode cL_law 1294 = .ok (.iload_n 3, 1) := by decide +kernel
theorem dL_law_1295 : decode cL_law 1295 = .ok (.iconst 1, 1) := by decide +kernel
theorem dL_law_1296 : decode cL_law 1296 = .ok (.iadd, 1) := by decide +kernel
theorem dL_law_1297 : decode cL_law 1297 = .ok (.iaload, 1) := by decide +kernel
theorem dL_law_1298 : decode cL_law 1298 = .ok (.aload_n 0, 1) := by decide +kernel
theorem dL_law_1299 : decode cL_law 1299 = .ok (.iload_n 3, 1) := by decide +kernel
theorem dL_law_1300 : decode cL_law 1300 = .ok (.iconst 2, 1) := by decide +kernel
theorem dL_law_1301 : decode cL_law 1301 = .ok (.iadd, 1) := by decide +kernel
theorem dL_law_1302 : decode cL_law 1302 = .ok (.iaload, 1) := by decide +kernel
theorem dL_law_1303 : decode cL_law 1303 = .ok (.invokevirtual 150, 3) := by decide +kernel
theorem dL_law_1306 : decode cL_law 1306 = .ok (.aload_n 2, 1) := by decide +kernel
theorem dL_law_1307 : decode cL_law 1307 = .ok (.aload_n 0, 1) := by decide +kernel
theorem dL_law_1308 : decode cL_law 1308 = .ok (.iload_n 3, 1) := by decide +kernel
theorem dL_law_1309 : decode cL_law 1309 = .ok (.iconst 1, 1) := by decide +kernel
theorem dL_law_1310 : decode cL_law 1310 = .ok (.iadd, 1) := by decide +kernel
theorem dL_law_1311 : decode cL_law 1311 = .ok (.iaload, 1) := by decide +kernel
theorem dL_law_1312 : decode cL_law 1312 = .ok (.aload_n 0, 1) := by decide +kernel
theorem dL_law_1313 : decode cL_law 1313 = .ok (.iload_n 3, 1) := by decide +kernel
theorem dL_law_1314 : decode cL_law 1314 = .ok (.iconst 2, 1) := by decide +kernel
theorem dL_law_1315 : decode cL_law 1315 = .ok (.iadd, 1) := by decide +kernel
theorem dL_law_1316 : decode cL_law 1316 = .ok (.iaload, 1) := by decide +kernel
theorem dL_law_1317 : decode cL_law 1317 = .ok (.invokevirtual 153, 3) := by decide +kernel
theorem dL_law_1320 : decode cL_law 1320 = .ok (.if_icmp .eq 54, 3) := by decide +kernel
theorem dL_law_1323 : decode cL_law 1323 = .ok (.iconst 0, 1) := by decide +kernel
theorem dL_law_1324 : decode cL_law 1324 = .ok (.ireturn, 1) := by decide +kernel
theorem dL_law_1325 : decode cL_law 1325 = .ok (.aload_n 1, 1) := by decide +kernel
theorem dL_law_1326 : decode cL_law 1326 = .ok (.invokevirtual 154, 3) := by decide +kernel
theorem dL_law_1329 : decode cL_law 1329 = .ok (.aload_n 2, 1) := by decide +kernel
theorem dL_law_1330 : decode cL_law 1330 = .ok (.invokevirtual 157, 3) := by decide +kernel
theorem dL_law_1333 : decode cL_law 1333 = .ok (.if_icmp .eq 41, 3) := by decide +kernel
theorem dL_law_1336 : decode cL_law 1336 = .ok (.iconst 0, 1) := by decide +kernel
theorem dL_law_1337 : decode cL_law 1337 = .ok (.ireturn, 1) := by decide +kernel
theorem dL_law_1338 : decode cL_law 1338 = .ok (.aload_n 1, 1) := by decide +kernel
theorem dL_law_1339 : decode cL_law 1339 = .ok (.invokevirtual 158, 3) := by decide +kernel
theorem dL_law_1342 : decode cL_law 1342 = .ok (.aload_n 2, 1) := by decide +kernel
theorem dL_law_1343 : decode cL_law 1343 = .ok (.invokevirtual 161, 3) := by decide +kernel
theorem dL_law_1346 : decode cL_law 1346 = .ok (.if_icmp .eq 28, 3) := by decide +kernel
theorem dL_law_1349 : decode cL_law 1349 = .ok (.iconst 0, 1) := by decide +kernel
theorem dL_law_1350 : decode cL_law 1350 = .ok (.ireturn, 1) := by decide +kernel
theorem dL_law_1351 : decode cL_law 1351 = .ok (.aload_n 1, 1) := by decide +kernel
theorem dL_law_1352 : decode cL_law 1352 = .ok (.aload_n 0, 1) := by decide +kernel
theorem dL_law_1353 : decode cL_law 1353 = .ok (.iload_n 3, 1) := by decide +kernel
theorem dL_law_1354 : decode cL_law 1354 = .ok (.iconst 1, 1) := by decide +kernel
theorem dL_law_1355 : decode cL_law 1355 = .ok (.iadd, 1) := by decide +kernel
theorem dL_law_1356 : decode cL_law 1356 = .ok (.iaload, 1) := by decide +kernel
theorem dL_law_1357 : decode cL_law 1357 = .ok (.invokevirtual 162, 3) := by decide +kernel
theorem dL_law_1360 : decode cL_law 1360 = .ok (.aload_n 2, 1) := by decide +kernel
theorem dL_law_1361 : decode cL_law 1361 = .ok (.aload_n 0, 1) := by decide +kernel
theorem dL_law_1362 : decode cL_law 1362 = .ok (.iload_n 3, 1) := by decide +kernel
theorem dL_law_1363 : decode cL_law 1363 = .ok (.iconst 1, 1) := by decide +kernel
theorem dL_law_1364 : decode cL_law 1364 = .ok (.iadd, 1) := by decide +kernel
theorem dL_law_1365 : decode cL_law 1365 = .ok (.iaload, 1) := by decide +kernel
theorem dL_law_1366 : decode cL_law 1366 = .ok (.invokevirtual 165, 3) := by decide +kernel
theorem dL_law_1369 : decode cL_law 1369 = .ok (.if_icmp .eq 5, 3) := by decide +kernel
theorem dL_law_1372 : decode cL_law 1372 = .ok (.iconst 0, 1) := by decide +kernel
theorem dL_law_1373 : decode cL_law 1373 = .ok (.ireturn, 1) := by decide +kernel
theorem dL_law_1374 : decode cL_law 1374 = .ok (.iinc 3 7, 3) := by decide +kernel
theorem dL_law_1377 : decode cL_law 1377 = .ok (.goto (-1359), 3) := by decide +kernel
theorem dL_law_1380 : decode cL_law 1380 = .ok (.iconst 1, 1) := by decide +kernel
theorem dL_law_1381 : decode cL_law 1381 = .ok (.ireturn, 1) := by decide +kernel
end
section
/-! ===== the abstract machine: cells by their numbers in the order in which they are made; values of a cell by its places ===== -/
abbrev bf_Hp : Type := Nat → Nat → Value
abbrev bf_G : Type := Nat × bf_Hp
abbrev bf_L : Type := List (Option Value)
abbrev bf_M : Type := MethodName × ByteArray × Nat × Option FieldType
abbrev bf_E : Type := Nat × Nat × Nat × (Nat → ClassId) × (Nat → Nat → Nat) × (Nat → ClassId)
abbrev bf_J : Type := Nat → bf_L → List Value → bf_G → Prop
abbrev bf_P : Type := Option Value → bf_G → Prop
/-- the cells: class (0 .. 8; 9 ints, 10 Places, 11 Sheets) and size -/
def bf_kdL : List (Nat × Nat) := [(7, 7), (11, 4), (2, 5), (10, 4), (0, 1), (9, 30), (3, 6), (9, 10), (9, 7), (3, 6), (9, 10), (9, 7), (3, 6), (9, 10), (9, 7), (3, 6), (9, 10), (9, 7), (4, 4), (9, 8), (9, 8), (9, 8), (6, 2), (9, 40), (1, 6), (9, 6), (9, 36), (9, 6), (9, 6), (5, 3), (9, 60), (5, 3), (9, 60), (5, 3), (9, 60), (5, 3), (9, 60), (8, 28), (9, 4), (9, 4), (9, 4), (9, 28), (9, 4), (9, 4), (9, 4), (9, 4), (9, 28), (9, 36), (9, 6), (9, 6), (9, 8), (9, 8), (9, 8), (9, 4), (9, 4), (9, 240), (9, 60)]
def bf_kd (a : Nat) : Nat × Nat := bf_kdL.getD a (99, 0)
def bf_SL : Nat → Nat
  | 0 => 0
  | n + 1 => bf_SL n + (bf_kd n).2
theorem bf_SL_le : ∀ {a b : Nat}, a ≤ b → bf_SL a ≤ bf_SL b := by
  intro a b h
  induction h with
  | refl => exact Nat.le_refl _
  | step _ ih => exact Nat.le_trans ih (Nat.le_add_right _ _)
def bf_ad (E : bf_E) (k : Nat) : Nat := if k < 100 then E.1 + k else if k = 100 then E.2.1 else E.2.2.1
def bf_cv (ad : Nat → Nat) : Value → Value
  | .ref k => .ref (ad k)
  | .int x => .int x
  | .long x => .long x
  | .float x => .float x
  | .double x => .double x
  | .null => .null
  | .retAddr x => .retAddr x
def bf_up (h : bf_Hp) (a j : Nat) (v : Value) : bf_Hp := fun b i => if b = a then (if i = j then v else h b i) else h b i
def bf_fill (h : bf_Hp) (a : Nat) (f : Nat → Value) : bf_Hp := fun b i => if b = a then f i else h b i
theorem bf_cat (ad : Nat → Nat) (v : Value) : (bf_cv ad v).category = v.category := by cases v <;> rfl
theorem bf_ad_lt (E : bf_E) {k : Nat} (h : k < 100) : bf_ad E k = E.1 + k := by simp [bf_ad, h]
theorem bf_ad_inj (E : bf_E) {a b : Nat} (ha : a < 57) (hb : b < 57) (h : bf_ad E a = bf_ad E b) : a = b := by
  rw [bf_ad_lt E (by omega), bf_ad_lt E (by omega)] at h
  omega
/-- one cell -/
def bf_C (E : bf_E) (h : bf_Hp) (a : Nat) (H : Heap) : Prop :=
  if (bf_kd a).1 < 9 then t_OB (bf_ad E a) (E.2.2.2.1 (bf_kd a).1) (bf_kd a).2 (E.2.2.2.2.1 (bf_kd a).1) H (fun j => bf_cv (bf_ad E) (h a j))
  else H[bf_ad E a]? = some (arrV (E.2.2.2.2.2 (bf_kd a).1) (bf_kd a).2 (fun j => bf_cv (bf_ad E) (h a j)))
def bf_HR (E : bf_E) (G : bf_G) (H : Heap) : Prop := G.1 ≤ 57 ∧ (G.1 < 57 → H.size = E.1 + G.1) ∧ ∀ a, a < G.1 → bf_C E G.2 a H
def bf_A (E : bf_E) : Nat → Prop := fun q => E.1 ≤ q
theorem bf_C.kept {E : bf_E} {h : bf_Hp} {a : Nat} {H H1 : Heap} (hc : bf_C E h a H) (hq : H1[bf_ad E a]? = H[bf_ad E a]?) : bf_C E h a H1 := by
  unfold bf_C at hc ⊢
  split at hc
  · rename_i h1; rw [if_pos h1]; exact hc.kept hq
  · rename_i h1; rw [if_neg h1, hq]; exact hc
theorem bf_C.congr {E : bf_E} {h h' : bf_Hp} {a : Nat} {H : Heap} (hc : bf_C E h a H) (hq : ∀ j, h' a j = h a j) : bf_C E h' a H := by
  have e : (fun j => bf_cv (bf_ad E) (h' a j)) = (fun j => bf_cv (bf_ad E) (h a j)) := funext fun j => by rw [hq]
  unfold bf_C
  rw [e]
  exact hc
theorem bf_C.obj {E : bf_E} {h : bf_Hp} {a ci : Nat} {H : Heap} (hc : bf_C E h a H) (hk : (bf_kd a).1 = ci) (hi : ci < 9) : t_OB (bf_ad E a) (E.2.2.2.1 ci) (bf_kd a).2 (E.2.2.2.2.1 ci) H (fun j => bf_cv (bf_ad E) (h a j)) := by
  unfold bf_C at hc
  rw [hk, if_pos hi] at hc
  exact hc
theorem bf_C.arr {E : bf_E} {h : bf_Hp} {a ci n : Nat} {H : Heap} (hc : bf_C E h a H) (hk : bf_kd a = (ci, n)) (hi : ¬ ci < 9) : H[bf_ad E a]? = some (arrV (E.2.2.2.2.2 ci) n (fun j => bf_cv (bf_ad E) (h a j))) := by
  unfold bf_C at hc
  rw [hk, if_neg hi] at hc
  exact hc
/-- one cell is changed, nothing else -/
theorem bf_HR.put {E : bf_E} {G : bf_G} {h' : bf_Hp} {a : Nat} {H H1 : Heap} (hh : bf_HR E G H) (ha : a < G.1) (hz : H1.size = H.size) (oq : ∀ q : Nat, q ≠ bf_ad E a → H1[q]? = H[q]?) (hc : bf_C E h' a H1) (hk : ∀ b j, b ≠ a → h' b j = G.2 b j) : bf_HR E (G.1, h') H1 := by
  refine ⟨hh.1, fun h => by rw [hz]; exact hh.2.1 h, fun b hb => ?_⟩
  by_cases e : b = a
  · subst e; exact hc
  · refine ((hh.2.2 b hb).kept (oq _ fun z => e (bf_ad_inj E ?_ ?_ z))).congr (fun j => hk b j e)
    · exact Nat.lt_of_lt_of_le hb hh.1
    · exact Nat.lt_of_lt_of_le ha hh.1
/-- a cell more -/
theorem bf_HR.new {E : bf_E} {G : bf_G} {h' : bf_Hp} {H H1 : Heap} (hh : bf_HR E G H) (hN : G.1 < 57) (hz : H1.size = H.size + 1) (oq : ∀ q : Nat, q < H.size → H1[q]? = H[q]?) (hc : bf_C E h' G.1 H1) (hk : ∀ b j, b ≠ G.1 → h' b j = G.2 b j) : bf_HR E (G.1 + 1, h') H1 := by
  have hs := hh.2.1 hN
  refine ⟨hN, fun _ => by rw [hz, hs]; rfl, fun b hb => ?_⟩
  by_cases e : b = G.1
  · rw [e]; exact hc
  · have hb' : b < G.1 := by have : b < G.1 + 1 := hb; omega
    refine ((hh.2.2 b hb').kept (oq _ ?_)).congr (fun j => hk b j e)
    rw [bf_ad_lt E (by omega), hs]
    omega
theorem bf_S.put {E : bf_E} {H0 H H1 : Heap} {locs : List Loc} {a k : Nat} (h : va_S (bf_A E) H0 H locs) (z : H1.size = H.size) (oq : ∀ q : Nat, q ≠ bf_ad E a → H1[q]? = H[q]?) (ha : a < 57) : va_S (bf_A E) H0 H1 (locs ++ [⟨bf_ad E a, k⟩]) :=
  h.put z oq (by show E.1 ≤ bf_ad E a; rw [bf_ad_lt E (by omega)]; omega)
theorem bf_S.new {E : bf_E} {H0 H H1 : Heap} {locs : List Loc} (h : va_S (bf_A E) H0 H locs) (z : H1.size = H.size + 1) (oq : ∀ q : Nat, q < H.size → H1[q]? = H[q]?) : va_S (bf_A E) H0 H1 locs :=
  ⟨Nat.le_trans h.1 (by omega), fun q h1 h2 => (oq q (Nat.lt_of_lt_of_le h1 h.1)).trans (h.2.1 q h1 h2), h.2.2⟩
/-- locals -/
def bf_lr (E : bf_E) (nL : Nat) (L : bf_L) (ls : Array Slot) : Prop := ls.size = nL ∧ lv_wf ls ∧ L.length ≤ nL ∧ ∀ (i : Nat) (v : Value), L[i]? = some (some v) → ls[i]? = some (.val (bf_cv (bf_ad E) v))
def bf_lo (L : bf_L) (i : Nat) : Bool := match i with
  | 0 => true
  | k + 1 => match L[k]? with
    | some (some w) => w.category == 1
    | _ => true
def bf_s1 (L : bf_L) (i : Nat) (v : Value) : Option bf_L := bif Nat.blt i L.length && bf_lo L i then some (L.set i (some v)) else none
def bf_s2 (L : bf_L) (i : Nat) (v : Value) : Option bf_L := bif Nat.blt (i + 1) L.length && bf_lo L i then some ((L.set i (some v)).set (i + 1) none) else none
def bf_ll (ad : Nat → Nat) (L : bf_L) : List (Nat × Value) := L.zipIdx.filterMap fun q => q.1.map fun v => (q.2, bf_cv ad v)
theorem bf_ll_mem {ad : Nat → Nat} {L : bf_L} {i : Nat} {w : Value} : (i, w) ∈ bf_ll ad L ↔ ∃ v, L[i]? = some (some v) ∧ w = bf_cv ad v := by
  unfold bf_ll
  rw [List.mem_filterMap]
  constructor
  · rintro ⟨⟨o, k⟩, h1, h2⟩
    rw [List.mem_zipIdx_iff_getElem?] at h1
    cases o with
    | none => simp at h2
    | some v =>
      simp at h2
      obtain ⟨rfl, rfl⟩ := h2
      exact ⟨v, h1, rfl⟩
  · rintro ⟨v, h1, rfl⟩
    exact ⟨(some v, i), by rw [List.mem_zipIdx_iff_getElem?]; exact h1, rfl⟩
theorem bf_lr.has {E : bf_E} {nL : Nat} {L : bf_L} {ls : Array Slot} (h : bf_lr E nL L ls) : lv_has ls nL (bf_ll (bf_ad E) L) := by
  refine ⟨h.1, h.2.1, fun q hq => ?_⟩
  obtain ⟨i, w⟩ := q
  obtain ⟨v, h1, rfl⟩ := bf_ll_mem.mp hq
  exact h.2.2.2 i v h1
theorem bf_lo_cat {L : bf_L} {i k : Nat} {w : Value} (h : bf_lo L i = true) (hk : k + 1 = i) (hw : L[k]? = some (some w)) : w.category = 1 := by
  subst hk
  simp only [bf_lo, hw] at h
  simpa using h
theorem bf_st1 {E : bf_E} {nL : Nat} {L L' : bf_L} {ls ls' : Array Slot} {i : Nat} {v : Value} (h : bf_lr E nL L ls) (hs : bf_s1 L i v = some L') (hh : lv_has ls' nL ((i, bf_cv (bf_ad E) v) :: (bf_ll (bf_ad E) L).filter (fun q => !(q.1 == i) && !(q.1 + 1 == i && q.2.category == 2)))) : bf_lr E nL L' ls' := by
  unfold bf_s1 at hs
  cases hb : (Nat.blt i L.length && bf_lo L i) with
  | false => rw [hb] at hs; cases hs
  | true =>
    rw [hb] at hs
    simp only [Bool.and_eq_true] at hb
    have hi : i < L.length := Nat.le_of_ble_eq_true hb.1
    cases hs
    refine ⟨hh.1, hh.2.1, by simpa using h.2.2.1, fun k w hk => ?_⟩
    by_cases e : k = i
    · subst e
      rw [List.getElem?_set_self hi] at hk
      cases hk
      exact hh.2.2 (k, _) List.mem_cons_self
    · rw [List.getElem?_set_ne (Ne.symm e)] at hk
      refine hh.2.2 (k, bf_cv (bf_ad E) w) (List.mem_cons_of_mem _ (List.mem_filter.mpr ⟨bf_ll_mem.mpr ⟨w, hk, rfl⟩, ?_⟩))
      by_cases e2 : k + 1 = i
      · have := bf_lo_cat hb.2 e2 hk
        simp [e, bf_cat, this]
      · simp [e, e2]
theorem bf_st2 {E : bf_E} {nL : Nat} {L L' : bf_L} {ls ls' : Array Slot} {i : Nat} {v : Value} (h : bf_lr E nL L ls) (hs : bf_s2 L i v = some L') (hh : lv_has ls' nL ((i, bf_cv (bf_ad E) v) :: (bf_ll (bf_ad E) L).filter (fun q => !(q.1 == i) && (!(q.1 == i + 1) && !(q.1 + 1 == i && q.2.category == 2))))) : bf_lr E nL L' ls' := by
  unfold bf_s2 at hs
  cases hb : (Nat.blt (i + 1) L.length && bf_lo L i) with
  | false => rw [hb] at hs; cases hs
  | true =>
    rw [hb] at hs
    simp only [Bool.and_eq_true] at hb
    have hi : i + 1 < L.length := Nat.le_of_ble_eq_true hb.1
    cases hs
    refine ⟨hh.1, hh.2.1, by simpa using h.2.2.1, fun k w hk => ?_⟩
    by_cases e1 : k = i + 1
    · subst e1
      rw [List.getElem?_set_self (by simpa using hi)] at hk
      cases hk
    · rw [List.getElem?_set_ne (Ne.symm e1)] at hk
      by_cases e : k = i
      · subst e
        rw [List.getElem?_set_self (by omega)] at hk
        cases hk
        exact hh.2.2 (k, _) List.mem_cons_self
      · rw [List.getElem?_set_ne (Ne.symm e)] at hk
        refine hh.2.2 (k, bf_cv (bf_ad E) w) (List.mem_cons_of_mem _ (List.mem_filter.mpr ⟨bf_ll_mem.mpr ⟨w, hk, rfl⟩, ?_⟩))
        by_cases e2 : k + 1 = i
        · have := bf_lo_cat hb.2 e2 hk
          simp [e, e1, bf_cat, this]
        · simp [e, e1, e2]
theorem bf_s1_lt {L L' : bf_L} {i : Nat} {v : Value} (hs : bf_s1 L i v = some L') : i < L.length := by
  unfold bf_s1 at hs
  cases hb : (Nat.blt i L.length && bf_lo L i) with
  | false => rw [hb] at hs; cases hs
  | true =>
    simp only [Bool.and_eq_true] at hb
    exact Nat.le_of_ble_eq_true hb.1
theorem bf_s2_lt {L L' : bf_L} {i : Nat} {v : Value} (hs : bf_s2 L i v = some L') : i + 1 < L.length := by
  unfold bf_s2 at hs
  cases hb : (Nat.blt (i + 1) L.length && bf_lo L i) with
  | false => rw [hb] at hs; cases hs
  | true =>
    simp only [Bool.and_eq_true] at hb
    exact Nat.le_of_ble_eq_true hb.1
/-- what the tables say -/
def bf_nest : Cond → Bool
  | .fieldLinkNest .. => true
  | .methodLinkNest .. => true
  | _ => false
def bf_K (E : bf_E) (U : State) : Prop := va_K (E.2.2.2.1, E.2.2.2.2.1) vwCl [(E.2.2.2.2.2 9, .int), (E.2.2.2.2.2 10, .object RX3), (E.2.2.2.2.2 11, .object RX5)] U ∧ (∀ w ∈ lw_tbl, bf_nest w = true → va_Nw w U) ∧ va_AO RX3 U ∧ va_AO RX5 U
def bf_fig (j : Nat) : Int32 := ([63, 6, 91, 79, 102, 109, 125, 7, 127, 111] : List Int32).getD j 0
def bf_gre (j : Nat) : Int32 := ([1, 12, 127] : List Int32).getD j 0
def bf_ST (E : bf_E) (U : State) (H : Heap) : Prop := (va_Z RX0 "FIGURES" "[I" (.ref E.2.1) (bf_A E) U H ∧ va_T .int E.2.1 10 (fun j => .int (bf_fig j)) (bf_A E) U H) ∧ (va_Z RX7 "GREATEST" "[I" (.ref E.2.2.1) (bf_A E) U H ∧ va_T .int E.2.2.1 3 (fun j => .int (bf_gre j)) (bf_A E) U H)
theorem bf_Nw_warm {w : Cond} (hw : bf_nest w = true) {s U : State} (hW : s.WarmedH U.vm) (h : va_Nw w s) : va_Nw w U := by
  cases w with
  | fieldLinkNest a i b n d hh => exact va_Nw.warmF hW h
  | methodLinkNest a i x hh => exact va_Nw.warmM hW h
  | _ => cases hw
theorem bf_Nw_same {w : Cond} (hw : bf_nest w = true) {s U : State} (hW : s.vm = U.vm) (h : va_Nw w s) : va_Nw w U := by
  cases w with
  | fieldLinkNest a i b n d hh => exact va_Nw.same rfl hW h
  | methodLinkNest a i x hh => exact va_Nw.same rfl hW h
  | _ => cases hw
theorem bf_K.warm {E : bf_E} {s U : State} (hW : s.WarmedH U.vm) (h : bf_K E s) : bf_K E U :=
  ⟨va_K.moved hW.alike h.1, fun w hw hn => bf_Nw_warm hn hW (h.2.1 w hw hn), h.2.2.1.moved hW.alike, h.2.2.2.moved hW.alike⟩
theorem bf_K.same {E : bf_E} {s U : State} (hW : s.vm = U.vm) (h : bf_K E s) : bf_K E U :=
  have ha : s.vm.Alike U.vm := by rw [hW]; exact Vm.Alike.refl _
  ⟨va_K.moved ha h.1, fun w hw hn => bf_Nw_same hn hW (h.2.1 w hw hn), h.2.2.1.moved ha, h.2.2.2.moved ha⟩
theorem bf_ST.moved {E : bf_E} {s U : State} {H : Heap} (hW : s.vm.Alike U.vm) (h : bf_ST E s H) : bf_ST E U H :=
  ⟨⟨va_Z.moved hW h.1.1, va_T.moved hW h.1.2⟩, ⟨va_Z.moved hW h.2.1, va_T.moved hW h.2.2⟩⟩
theorem bf_ST.kept {E : bf_E} {s : State} {H H1 : Heap} (h : bf_ST E s H) (hq : ∀ a : Nat, a < H.size → ¬ bf_A E a → H1[a]? = H[a]?) : bf_ST E s H1 :=
  ⟨⟨h.1.1.kept hq, h.1.2.kept hq⟩, ⟨h.2.1.kept hq, h.2.2.kept hq⟩⟩
def bf_ws (y : bf_M) : List Cond := Cond.code y.1 y.2.1 y.2.2.1 y.2.2.2 :: lw_tbl.filter goodWord
def bf_rm (d N n' : Nat) : Room := { frames := d, cells := n' - N, slots := bf_SL n' - bf_SL N, locals := 60 * d }
def bf_Pc (E : bf_E) (vs : List Value) (G : bf_G) : Array Value → State → Prop := va_Pc (vs.map (bf_cv (bf_ad E))) (fun U => bf_HR E G U.heap ∧ bf_K E U ∧ bf_ST E U U.heap)
def bf_Qc (E : bf_E) (n' : Nat) (Post : bf_P) : Array Value → State → Outcome → State → Prop := fun _ st oc t => (∃ (r : Option Value) (G' : bf_G), oc = .returned (r.map (bf_cv (bf_ad E))) ∧ Post r G' ∧ G'.1 = n' ∧ bf_HR E G' t.heap) ∧ va_F (bf_A E) st t
def bf_MT (d : Nat) (y : bf_M) (vs : List Value) (G : bf_G) (n' : Nat) (Post : bf_P) : Prop := ∀ (l : Launch) (E : bf_E), Met l y.1 (bf_ws y) (bf_rm d G.1 n') (bf_Pc E vs G) (bf_Qc E n' Post) (n' - G.1) (bf_SL n' - bf_SL G.1) (bf_A E)
/-- links: what an index of a class's pool is -/
def bf_fl (own : String) (idx ci j : Nat) : Prop := ∃ q : vw_C, vwCl[ci]? = some q ∧ j < q.2.2 ∧ (q.2.1 j).1 = q.1 ∧ (Cond.fieldLink own idx q.1 (q.2.1 j).2.1 (q.2.1 j).2.2.1 ∈ lw_tbl ∨ ∃ host, Cond.fieldLinkNest own idx q.1 (q.2.1 j).2.1 (q.2.1 j).2.2.1 host ∈ lw_tbl)
def bf_fp (own : String) (idx ci j : Nat) : Prop := ∃ q : vw_C, vwCl[ci]? = some q ∧ j < q.2.2 ∧ (q.2.1 j).1 = q.1 ∧ (q.2.1 j).2.2.2 = false ∧ (q.2.1 j).2.2.1 = "I" ∧ (Cond.fieldLink own idx q.1 (q.2.1 j).2.1 (q.2.1 j).2.2.1 ∈ lw_tbl ∨ ∃ host, Cond.fieldLinkNest own idx q.1 (q.2.1 j).2.1 (q.2.1 j).2.2.1 host ∈ lw_tbl)
def bf_isR : FieldType → Bool
  | .object _ => true
  | .array _ => true
  | _ => false
def bf_ff (own : String) (idx ci j : Nat) : Prop := ∃ q : vw_C, vwCl[ci]? = some q ∧ j < q.2.2 ∧ (q.2.1 j).1 = q.1 ∧ q.1 = own ∧ (q.2.1 j).2.2.2 = true ∧ (∃ ty, parseFieldDescriptor (q.2.1 j).2.2.1 = some ty ∧ bf_isR ty = true) ∧ Cond.fieldLink own idx q.1 (q.2.1 j).2.1 (q.2.1 j).2.2.1 ∈ lw_tbl
def bf_li (own : String) (idx : Nat) (x : MethodName) : Prop := Cond.methodLink own idx x ∈ lw_tbl ∨ ∃ host, Cond.methodLinkNest own idx x host ∈ lw_tbl
def bf_mo (y : bf_M) (n : Nat) : Prop := Cond.code y.1 y.2.1 y.2.2.1 y.2.2.2 ∈ lw_tbl ∧ Cond.initialized y.1.cls ∈ lw_tbl ∧ plainName y.1.cls = true ∧ (y.1.cls ≠ "java/lang/invoke/MethodHandle" ∧ y.1.cls ≠ "java/lang/invoke/VarHandle" ∧ (parseMethodDescriptor y.1.desc).map (fun d => d.parameters.length) = some n) ∧ y.2.2.1 ≤ 30
def bf_mv (y : bf_M) (ci n : Nat) : Prop := bf_mo y n ∧ ∃ q : vw_C, vwCl[ci]? = some q ∧ Cond.instanceMethod y.1 ∈ lw_tbl ∧ Cond.selects q.1 y.1 y.1 ∈ lw_tbl
def bf_ms (y : bf_M) (n : Nat) : Prop := bf_mo y n ∧ Cond.static y.1 ∈ lw_tbl
def bf_mi (y : bf_M) (n : Nat) : Prop := bf_mo y n ∧ Cond.instanceMethod y.1 ∈ lw_tbl ∧ y.1.name = "<init>" ∧ y.2.2.2 = none
def bf_dv (ty : FieldType) : Value := defaultValue ty
def bf_nw (own : String) (idx ci : Nat) : Prop := ∃ q : vw_C, vwCl[ci]? = some q ∧ Cond.classLink own idx q.1 ∈ lw_tbl ∧ Cond.instantiable q.1 q.2.2 ∈ lw_tbl ∧ Cond.initialized q.1 ∈ lw_tbl
def bf_cls (ci : Nat) (q : vw_C) (ty0 : Nat → FieldType) : Prop := vwCl[ci]? = some q ∧ (∀ w ∈ u_ws q.1 q.2.1 q.2.2, w ∈ lw_tbl) ∧ (∀ k, k < q.2.2 → parseFieldDescriptor (q.2.1 k).2.2.1 = some (ty0 k)) ∧ (∀ a, a < q.2.2 → ∀ b, b < q.2.2 → a ≠ b → (q.2.1 a).2.1 ≠ (q.2.1 b).2.1)
def bf_dfl (ci : Nat) (f : Nat → Value) : Prop := ∃ (q : vw_C) (ty0 : Nat → FieldType), bf_cls ci q ty0 ∧ ∀ j, j < q.2.2 → defaultValue (ty0 j) = f j
end
section
/-- what holds in a method's walk -/
def bf_X (p : Program) (s : State) (m : MethodId) (args : Array Value) (c : Code) (E : bf_E) (nL : Nat) (y : bf_M) : Prop :=
  p.tables.exec = Jvm.exec ∧ c.code = y.2.1 ∧ c.maxLocals = nL ∧ s.vm.findClass y.1.cls = some m.cls ∧ (∀ w ∈ lw_tbl, goodWord w = true → w.before args s = true) ∧ bf_K E s ∧ bf_ST E s s.heap
def bf_JW (p : Program) (l : Launch) (e : Env) (R : Room) (s : State) (m : MethodId) (args : Array Value) (below : List Frame) (meth : Method) (c : Code) (E : bf_E) (nL N0 : Nat) (Q : State → Prop) : bf_J := fun pc L S G =>
  ∀ (H : Heap) (locs : List Loc) (ls : Array Slot), bf_HR E G H → va_S (bf_A E) s.heap H locs → bf_lr E nL L ls → N0 ≤ G.1 → W p l e R s m args below meth c H locs (G.1 - N0) (bf_SL G.1 - bf_SL N0) Q (F0 m pc ls (S.map (bf_cv (bf_ad E))))
theorem bf_gw {q : String} {T : u_T} {N : Nat} {w : Cond} (hw : w ∈ u_ws q T N) : goodWord w = true := by
  obtain ⟨k, -, rfl⟩ := List.mem_map.mp hw
  unfold u_lay
  split <;> rfl
theorem bf_kd_sz {a ci : Nat} {q : vw_C} (hk : (bf_kd a).1 = ci) (hq : vwCl[ci]? = some q) (ha : a < 57) : (bf_kd a).2 = q.2.2 := by
  have key : ∀ a, a < 57 → (vwCl[(bf_kd a).1]?).all (fun q => (bf_kd a).2 == q.2.2) = true := by decide +kernel
  have h := key a ha
  rw [hk, hq] at h
  simpa using h
theorem bf_mt {w : Cond} (i : Nat) (h : tables_1[i]? = some w) : w ∈ lw_tbl := List.mem_append_right _ (List.mem_of_getElem? h)
theorem bf_in0 : ∀ w ∈ u_ws RX0 TX0 1, w ∈ lw_tbl := by
  intro w hw
  obtain ⟨k, hk, rfl⟩ := List.mem_map.mp hw
  have hk := List.mem_range.mp hk
  match k, hk with
  | 0, _ => exact bf_mt 50 (by decide +kernel)
  | k + 1, h => omega
theorem bf_in1 : ∀ w ∈ u_ws RX1 TX1 6, w ∈ lw_tbl := by
  intro w hw
  obtain ⟨k, hk, rfl⟩ := List.mem_map.mp hw
  have hk := List.mem_range.mp hk
  match k, hk with
  | 0, _ => exact bf_mt 158 (by decide +kernel)
  | 1, _ => exact bf_mt 160 (by decide +kernel)
  | 2, _ => exact bf_mt 162 (by decide +kernel)
  | 3, _ => exact bf_mt 164 (by decide +kernel)
  | 4, _ => exact bf_mt 166 (by decide +kernel)
  | 5, _ => exact bf_mt 168 (by decide +kernel)
  | k + 6, h => omega
theorem bf_in2 : ∀ w ∈ u_ws RX2 TX2 5, w ∈ lw_tbl := by
  intro w hw
  obtain ⟨k, hk, rfl⟩ := List.mem_map.mp hw
  have hk := List.mem_range.mp hk
  match k, hk with
  | 0, _ => exact bf_mt 102 (by decide +kernel)
  | 1, _ => exact bf_mt 104 (by decide +kernel)
  | 2, _ => exact bf_mt 106 (by decide +kernel)
  | 3, _ => exact bf_mt 108 (by decide +kernel)
  | 4, _ => exact bf_mt 110 (by decide +kernel)
  | k + 5, h => omega
theorem bf_in3 : ∀ w ∈ u_ws RX3 TX3 6, w ∈ lw_tbl := by
  intro w hw
  obtain ⟨k, hk, rfl⟩ := List.mem_map.mp hw
  have hk := List.mem_range.mp hk
  match k, hk with
  | 0, _ => exact bf_mt 72 (by decide +kernel)
  | 1, _ => exact bf_mt 74 (by decide +kernel)
  | 2, _ => exact bf_mt 76 (by decide +kernel)
  | 3, _ => exact bf_mt 78 (by decide +kernel)
  | 4, _ => exact bf_mt 80 (by decide +kernel)
  | 5, _ => exact bf_mt 82 (by decide +kernel)
  | k + 6, h => omega
theorem bf_in4 : ∀ w ∈ u_ws RX4 TX4 4, w ∈ lw_tbl := by
  intro w hw
  obtain ⟨k, hk, rfl⟩ := List.mem_map.mp hw
  have hk := List.mem_range.mp hk
  match k, hk with
  | 0, _ => exact bf_mt 124 (by decide +kernel)
  | 1, _ => exact bf_mt 126 (by decide +kernel)
  | 2, _ => exact bf_mt 128 (by decide +kernel)
  | 3, _ => exact bf_mt 130 (by decide +kernel)
  | k + 4, h => omega
theorem bf_in5 : ∀ w ∈ u_ws RX5 TX5 3, w ∈ lw_tbl := by
  intro w hw
  obtain ⟨k, hk, rfl⟩ := List.mem_map.mp hw
  have hk := List.mem_range.mp hk
  match k, hk with
  | 0, _ => exact bf_mt 180 (by decide +kernel)
  | 1, _ => exact bf_mt 182 (by decide +kernel)
  | 2, _ => exact bf_mt 184 (by decide +kernel)
  | k + 3, h => omega
theorem bf_in6 : ∀ w ∈ u_ws RX6 TX6 2, w ∈ lw_tbl := by
  intro w hw
  obtain ⟨k, hk, rfl⟩ := List.mem_map.mp hw
  have hk := List.mem_range.mp hk
  match k, hk with
  | 0, _ => exact bf_mt 141 (by decide +kernel)
  | 1, _ => exact bf_mt 143 (by decide +kernel)
  | k + 2, h => omega
theorem bf_in7 : ∀ w ∈ u_ws RX8 TX8 7, w ∈ lw_tbl := by
  intro w hw
  obtain ⟨k, hk, rfl⟩ := List.mem_map.mp hw
  have hk := List.mem_range.mp hk
  match k, hk with
  | 0, _ => exact bf_mt 194 (by decide +kernel)
  | 1, _ => exact bf_mt 196 (by decide +kernel)
  | 2, _ => exact bf_mt 198 (by decide +kernel)
  | 3, _ => exact bf_mt 200 (by decide +kernel)
  | 4, _ => exact bf_mt 202 (by decide +kernel)
  | 5, _ => exact bf_mt 204 (by decide +kernel)
  | 6, _ => exact bf_mt 206 (by decide +kernel)
  | k + 7, h => omega
theorem bf_in8 : ∀ w ∈ u_ws RX9 TX9 28, w ∈ lw_tbl := by
  intro w hw
  obtain ⟨k, hk, rfl⟩ := List.mem_map.mp hw
  have hk := List.mem_range.mp hk
  match k, hk with
  | 0, _ => exact bf_mt 695 (by decide +kernel)
  | 1, _ => exact bf_mt 697 (by decide +kernel)
  | 2, _ => exact bf_mt 699 (by decide +kernel)
  | 3, _ => exact bf_mt 701 (by decide +kernel)
  | 4, _ => exact bf_mt 703 (by decide +kernel)
  | 5, _ => exact bf_mt 705 (by decide +kernel)
  | 6, _ => exact bf_mt 707 (by decide +kernel)
  | 7, _ => exact bf_mt 709 (by decide +kernel)
  | 8, _ => exact bf_mt 711 (by decide +kernel)
  | 9, _ => exact bf_mt 713 (by decide +kernel)
  | 10, _ => exact bf_mt 715 (by decide +kernel)
  | 11, _ => exact bf_mt 717 (by decide +kernel)
  | 12, _ => exact bf_mt 719 (by decide +kernel)
  | 13, _ => exact bf_mt 721 (by decide +kernel)
  | 14, _ => exact bf_mt 723 (by decide +kernel)
  | 15, _ => exact bf_mt 725 (by decide +kernel)
  | 16, _ => exact bf_mt 727 (by decide +kernel)
  | 17, _ => exact bf_mt 729 (by decide +kernel)
  | 18, _ => exact bf_mt 731 (by decide +kernel)
  | 19, _ => exact bf_mt 733 (by decide +kernel)
  | 20, _ => exact bf_mt 735 (by decide +kernel)
  | 21, _ => exact bf_mt 737 (by decide +kernel)
  | 22, _ => exact bf_mt 739 (by decide +kernel)
  | 23, _ => exact bf_mt 741 (by decide +kernel)
  | 24, _ => exact bf_mt 743 (by decide +kernel)
  | 25, _ => exact bf_mt 745 (by decide +kernel)
  | 26, _ => exact bf_mt 747 (by decide +kernel)
  | 27, _ => exact bf_mt 749 (by decide +kernel)
  | k + 28, h => omega
theorem bf_cls_of {ci : Nat} {q : vw_C} (h : vwCl[ci]? = some q) : ∃ ty0 : Nat → FieldType, (∀ w ∈ u_ws q.1 q.2.1 q.2.2, w ∈ lw_tbl) ∧ (∀ k, k < q.2.2 → parseFieldDescriptor (q.2.1 k).2.2.1 = some (ty0 k)) ∧ (∀ a, a < q.2.2 → ∀ b, b < q.2.2 → a ≠ b → (q.2.1 a).2.1 ≠ (q.2.1 b).2.1) := by
  match ci, h with
  | 0, h => cases h; exact ⟨tyX0, bf_in0, tyX0_ok, nmX0⟩
  | 1, h => cases h; exact ⟨tyX1, bf_in1, tyX1_ok, nmX1⟩
  | 2, h => cases h; exact ⟨tyX2, bf_in2, tyX2_ok, nmX2⟩
  | 3, h => cases h; exact ⟨tyX3, bf_in3, tyX3_ok, nmX3⟩
  | 4, h => cases h; exact ⟨tyX4, bf_in4, tyX4_ok, nmX4⟩
  | 5, h => cases h; exact ⟨tyX5, bf_in5, tyX5_ok, nmX5⟩
  | 6, h => cases h; exact ⟨tyX6, bf_in6, tyX6_ok, nmX6⟩
  | 7, h => cases h; exact ⟨tyX8, bf_in7, tyX8_ok, nmX8⟩
  | 8, h => cases h; exact ⟨tyX9, bf_in8, tyX9_ok, nmX9⟩
  | k + 9, h => simp [vwCl] at h
section bfW
variable {p : Program} {l : Launch} {e : Env} {R : Room} {s : State} {m : MethodId} {args : Array Value} {below : List Frame} {meth : Method} {c : Code} {E : bf_E} {nL N0 : Nat} {Q : State → Prop} {y : bf_M}
/-- getfield, whether the field is the own class's or a nest mate's -/
theorem jw_getp {H : Heap} {locs : List Loc} {ls : Array Slot} {G : bf_G} {cells slots pc i ci j a : Nat} {S : List Value} (X : bf_X p s m args c E nL y) (d : decode y.2.1 pc = .ok (.getfield i, 3)) (hf : bf_fl y.1.cls i ci j) (hk : (bf_kd a).1 = ci) (ha : a < G.1) (hH : bf_HR E G H)
    (k : W p l e R s m args below meth c H locs cells slots Q (F0 m (pc + 3) ls (bf_cv (bf_ad E) (G.2 a j) :: S))) : W p l e R s m args below meth c H locs cells slots Q (F0 m pc ls (.ref (bf_ad E a) :: S)) := by
  obtain ⟨q, hq, hj, hd, hw⟩ := hf
  have hci : ci < 9 := (List.getElem?_eq_some_iff.mp hq).1
  obtain ⟨cell, q1, q2, q3, q4⟩ := (hH.2.2 a ha).obj hk hci
  obtain ⟨ty0, hin, hty, hnm⟩ := bf_cls_of hq
  have hts := fun w hw => X.2.2.2.2.1 w (hin w hw) (bf_gw hw)
  have hn : (bf_kd a).2 = q.2.2 := bf_kd_sz hk hq (Nat.lt_of_lt_of_le ha hH.1)
  obtain ⟨hS, hfc, kC, hkC, hkind⟩ := X.2.2.2.2.2.1.1.1 ci _ hq
  obtain ⟨cf, kf, fi, f, hi, hsl⟩ := hS j hj
  have hst := (u_facts hfc hkC (u_lays (ws := u_ws q.1 q.2.1 q.2.2) hts (fun w h => h) hj) hi).1
  have hv : cell.slots[f.slot]? = some (bf_cv (bf_ad E) (G.2 a j)) := by rw [hsl]; exact q4 j (by rw [hn]; exact hj)
  rw [hd] at hi
  rcases hw with hw | ⟨host, hw⟩
  · exact W.getf X.1 X.2.1 X.2.2.2.1 (X.2.2.2.2.1 _ hw rfl) hi hst q1 (by rw [q3]; exact fun h => by cases h) hv rfl rfl d k
  · exact va_Wgetf X.1 X.2.1 X.2.2.2.1 (va_Nw.use rfl (X.2.2.2.2.2.1.2.1 _ hw rfl)) hi hst q1 (by rw [q3]; exact fun h => by cases h) hv rfl rfl d k
theorem bf_obj_set {G : bf_G} {H H1 : Heap} {a ci j : Nat} {q : vw_C} {ty0 : Nat → FieldType} {cell : Cell} {v : Value} (X : bf_X p s m args c E nL y) (hc : bf_cls ci q ty0) (hk : (bf_kd a).1 = ci) (hci : ci < 9) (ha : a < G.1) (hH : bf_HR E G H) (hj : j < q.2.2)
    (q2 : cell.cls = E.2.2.2.1 ci) (q3 : cell.vm = .none) (q4 : ∀ k, k < (bf_kd a).2 → cell.slots[E.2.2.2.2.1 ci k]? = some (bf_cv (bf_ad E) (G.2 a k))) (e1 : H1[bf_ad E a]? = some (cell.setSlot (E.2.2.2.2.1 ci j) (bf_cv (bf_ad E) v))) : bf_C E (bf_up G.2 a j v) a H1 := by
  have hn : (bf_kd a).2 = q.2.2 := bf_kd_sz hk hc.1 (Nat.lt_of_lt_of_le ha hH.1)
  have hts := fun w hw => X.2.2.2.2.1 w (hc.2.1 w hw) (bf_gw hw)
  have hap : ∀ x z, x < q.2.2 → z < q.2.2 → x ≠ z → E.2.2.2.2.1 ci x ≠ E.2.2.2.2.1 ci z := va_apart (own := q.1) (s := s) (args := args) (D := (E.2.2.2.1, E.2.2.2.2.1)) (cl := vwCl) (C := q.1) (T := q.2.1) (N := q.2.2) (Ts := u_ws q.1 q.2.1 q.2.2) hts (fun w h => h) ty0 hc.2.2.1 hc.2.2.2 X.2.2.2.2.2.1.1 hc.1
  unfold bf_C
  rw [hk, if_pos hci]
  refine ⟨_, e1, q2, q3, fun i hi => ?_⟩
  rw [t_set (V := fun k => bf_cv (bf_ad E) (G.2 a k)) (fun k hk2 => q4 k (by rw [hn]; exact hk2)) hap hj _ i (by rw [← hn]; exact hi)]
  by_cases e : i = j
  · simp [updV, bf_up, e]
  · simp [updV, bf_up, e]
theorem jw_putp {H : Heap} {locs : List Loc} {ls : Array Slot} {G : bf_G} {cells slots pc i ci j a : Nat} {S : List Value} {v : Int32} (X : bf_X p s m args c E nL y) (d : decode y.2.1 pc = .ok (.putfield i, 3)) (hf : bf_fp y.1.cls i ci j) (hk : (bf_kd a).1 = ci) (ha : a < G.1) (hH : bf_HR E G H) (hS0 : va_S (bf_A E) s.heap H locs)
    (k : ∀ (H1 : Heap) (locs1 : List Loc), bf_HR E (G.1, bf_up G.2 a j (.int v)) H1 → va_S (bf_A E) s.heap H1 locs1 → W p l e R s m args below meth c H1 locs1 cells slots Q (F0 m (pc + 3) ls S)) : W p l e R s m args below meth c H locs cells slots Q (F0 m pc ls (.int v :: .ref (bf_ad E a) :: S)) := by
  obtain ⟨q, hq, hj, hd, hfin, hI, hw⟩ := hf
  have hci : ci < 9 := (List.getElem?_eq_some_iff.mp hq).1
  obtain ⟨cell, q1, q2, q3, q4⟩ := (hH.2.2 a ha).obj hk hci
  obtain ⟨ty0, hin, hty, hnm⟩ := bf_cls_of hq
  have hts := fun w hw => X.2.2.2.2.1 w (hin w hw) (bf_gw hw)
  have hn : (bf_kd a).2 = q.2.2 := bf_kd_sz hk hq (Nat.lt_of_lt_of_le ha hH.1)
  obtain ⟨hS, hfc, kC, hkC, hkind⟩ := X.2.2.2.2.2.1.1.1 ci _ hq
  obtain ⟨cf, kf, fi, f, hi, hsl⟩ := hS j hj
  have hst := (u_facts hfc hkC (u_lays (ws := u_ws q.1 q.2.1 q.2.2) hts (fun w h => h) hj) hi).1
  have hlay := hts _ (u_in_lay (C := q.1) (T := q.2.1) hj)
  unfold u_lay at hlay
  rw [if_neg (by rw [hfin]; decide)] at hlay
  have h6 : k2_Sd s f (E.2.2.2.1 ci) (.int v) := u_store hfc hkC hkind hlay hi (ty := .int) (by rw [hI]; rfl) rfl rfl
  have hlt : f.slot < cell.slots.size := by rw [hsl]; exact k2_hasslot (q4 j (by rw [hn]; exact hj))
  have fin : ∀ H1 : Heap, H1[bf_ad E a]? = some (cell.setSlot f.slot (.int v)) → H1.size = H.size → (∀ q, q ≠ bf_ad E a → H1[q]? = H[q]?) → W p l e R s m args below meth c H1 (locs ++ [⟨bf_ad E a, f.slot⟩]) cells slots Q (F0 m (pc + 3) ls S) := by
    intro H1 e1 z1 o1
    refine k H1 _ (hH.put ha z1 o1 ?_ (fun b j hb => by simp [bf_up, hb])) (bf_S.put hS0 z1 o1 (Nat.lt_of_lt_of_le ha hH.1))
    rw [hsl] at e1
    exact bf_obj_set X ⟨hq, hin, hty, hnm⟩ hk hci ha hH hj q2 q3 q4 e1
  have hi2 : s.fieldFound? q.1 (q.2.1 j).2.1 (q.2.1 j).2.2.1 = some (cf, kf, fi, f) := by rw [← hd]; exact hi
  rcases hw with hw | ⟨host, hw⟩
  · exact W.putK X.1 X.2.1 (f := f) ⟨X.2.2.2.1, X.2.2.2.2.1 _ hw rfl, ⟨_, _, _, hi2⟩, hst⟩ (by rw [q2]; exact h6) q1 q3 hlt rfl rfl d fin
  · exact va_WputK X.1 X.2.1 (f := f) X.2.2.2.1 (va_Nw.use rfl (X.2.2.2.2.2.1.2.1 _ hw rfl)) hi2 hst (by rw [q2]; exact h6) q1 q3 hlt rfl rfl d fin
/-- rule -/
def bf_r_iconst (y : bf_M) (J : bf_J) : Prop := ∀ (pc : Nat) (L : bf_L) (S : List Value) (G : bf_G) (n : Int) (v : Int32), decode y.2.1 pc = .ok (.iconst n, 1) → Int32.ofInt n = v → J (pc + 1) L (.int v :: S) G → J pc L S G
theorem jw_iconst (X : bf_X p s m args c E nL y) : bf_r_iconst y (bf_JW p l e R s m args below meth c E nL N0 Q) := by
  intro pc L S G n v d hv k
  intro H locs ls hH hS hl hN
  exact lv_iconst X.1 X.2.1 d hv (k H locs ls hH hS hl hN)
/-- rule -/
def bf_r_bipush (y : bf_M) (J : bf_J) : Prop := ∀ (pc : Nat) (L : bf_L) (S : List Value) (G : bf_G) (n : Int) (v : Int32), decode y.2.1 pc = .ok (.bipush n, 2) → (Int8.ofInt n).toInt32 = v → J (pc + 2) L (.int v :: S) G → J pc L S G
theorem jw_bipush (X : bf_X p s m args c E nL y) : bf_r_bipush y (bf_JW p l e R s m args below meth c E nL N0 Q) := by
  intro pc L S G n v d hv k
  intro H locs ls hH hS hl hN
  exact lv_bipush X.1 X.2.1 d hv (k H locs ls hH hS hl hN)
/-- rule -/
def bf_r_sipush (y : bf_M) (J : bf_J) : Prop := ∀ (pc : Nat) (L : bf_L) (S : List Value) (G : bf_G) (n : Int) (v : Int32), decode y.2.1 pc = .ok (.sipush n, 3) → (Int16.ofInt n).toInt32 = v → J (pc + 3) L (.int v :: S) G → J pc L S G
theorem jw_sipush (X : bf_X p s m args c E nL y) : bf_r_sipush y (bf_JW p l e R s m args below meth c E nL N0 Q) := by
  intro pc L S G n v d hv k
  intro H locs ls hH hS hl hN
  exact lv_sipush X.1 X.2.1 d hv (k H locs ls hH hS hl hN)
/-- rule -/
def bf_r_lconst (y : bf_M) (J : bf_J) : Prop := ∀ (pc : Nat) (L : bf_L) (S : List Value) (G : bf_G) (n : Fin 2) (v : Int64), decode y.2.1 pc = .ok (.lconst n, 1) → Int64.ofNat (n : Nat) = v → J (pc + 1) L (.long v :: S) G → J pc L S G
theorem jw_lconst (X : bf_X p s m args c E nL y) : bf_r_lconst y (bf_JW p l e R s m args below meth c E nL N0 Q) := by
  intro pc L S G n v d hv k
  intro H locs ls hH hS hl hN
  exact lv_lconst X.1 X.2.1 d hv (k H locs ls hH hS hl hN)
/-- rule -/
def bf_r_ldcw (y : bf_M) (J : bf_J) : Prop := ∀ (pc : Nat) (L : bf_L) (S : List Value) (G : bf_G) (i : Nat) (v : Int32), decode y.2.1 pc = .ok (.ldc_w i, 3) → Cond.constant y.1.cls i v ∈ lw_tbl → J (pc + 3) L (.int v :: S) G → J pc L S G
theorem jw_ldcw (X : bf_X p s m args c E nL y) : bf_r_ldcw y (bf_JW p l e R s m args below meth c E nL N0 Q) := by
  intro pc L S G i v d hw k
  intro H locs ls hH hS hl hN
  exact lv_ldcw X.1 X.2.1 X.2.2.2.1 (X.2.2.2.2.1 _ hw rfl) d (k H locs ls hH hS hl hN)
/-- rule -/
def bf_r_ldc2 (y : bf_M) (J : bf_J) : Prop := ∀ (pc : Nat) (L : bf_L) (S : List Value) (G : bf_G) (i : Nat) (v : Int64), decode y.2.1 pc = .ok (.ldc2_w i, 3) → Cond.constantLong y.1.cls i v ∈ lw_tbl → J (pc + 3) L (.long v :: S) G → J pc L S G
theorem jw_ldc2 (X : bf_X p s m args c E nL y) : bf_r_ldc2 y (bf_JW p l e R s m args below meth c E nL N0 Q) := by
  intro pc L S G i v d hw k
  intro H locs ls hH hS hl hN
  exact lv_ldc2 X.1 X.2.1 X.2.2.2.1 (X.2.2.2.2.1 _ hw rfl) d (k H locs ls hH hS hl hN)
/-- rule -/
def bf_r_iload_n (y : bf_M) (J : bf_J) : Prop := ∀ (pc : Nat) (L : bf_L) (S : List Value) (G : bf_G) (i : Fin 4) (x : Int32), decode y.2.1 pc = .ok (.iload_n i, 1) → L[(i : Nat)]? = some (some (.int x)) → J (pc + 1) L (.int x :: S) G → J pc L S G
theorem jw_iload_n (X : bf_X p s m args c E nL y) : bf_r_iload_n y (bf_JW p l e R s m args below meth c E nL N0 Q) := by
  intro pc L S G i x d h k
  intro H locs ls hH hS hl hN
  exact lv_iload_n X.1 X.2.1 d rfl (hl.2.2.2 _ _ h) (k H locs ls hH hS hl hN)
/-- rule -/
def bf_r_iload (y : bf_M) (J : bf_J) : Prop := ∀ (pc : Nat) (L : bf_L) (S : List Value) (G : bf_G) (i : Nat) (x : Int32), decode y.2.1 pc = .ok (.iload i, 2) → L[i]? = some (some (.int x)) → J (pc + 2) L (.int x :: S) G → J pc L S G
theorem jw_iload (X : bf_X p s m args c E nL y) : bf_r_iload y (bf_JW p l e R s m args below meth c E nL N0 Q) := by
  intro pc L S G i x d h k
  intro H locs ls hH hS hl hN
  exact lv_iload X.1 X.2.1 d (hl.2.2.2 _ _ h) (k H locs ls hH hS hl hN)
/-- rule -/
def bf_r_istore_n (y : bf_M) (J : bf_J) : Prop := ∀ (pc : Nat) (L : bf_L) (S : List Value) (G : bf_G) (i : Fin 4) (x : Int32) (L2 : bf_L), decode y.2.1 pc = .ok (.istore_n i, 1) → bf_s1 L i (.int x) = some L2 → J (pc + 1) L2 S G → J pc L (.int x :: S) G
theorem jw_istore_n (X : bf_X p s m args c E nL y) : bf_r_istore_n y (bf_JW p l e R s m args below meth c E nL N0 Q) := by
  intro pc L S G i x L2 d h k
  intro H locs ls hH hS hl hN
  exact lv_istore_n X.1 X.2.1 d rfl hl.has (Nat.lt_of_lt_of_le (bf_s1_lt h) hl.2.2.1) rfl (fun ls2 h2 => k H locs ls2 hH hS (bf_st1 hl h h2) hN)
/-- rule -/
def bf_r_istore (y : bf_M) (J : bf_J) : Prop := ∀ (pc : Nat) (L : bf_L) (S : List Value) (G : bf_G) (i : Nat) (x : Int32) (L2 : bf_L), decode y.2.1 pc = .ok (.istore i, 2) → bf_s1 L i (.int x) = some L2 → J (pc + 2) L2 S G → J pc L (.int x :: S) G
theorem jw_istore (X : bf_X p s m args c E nL y) : bf_r_istore y (bf_JW p l e R s m args below meth c E nL N0 Q) := by
  intro pc L S G i x L2 d h k
  intro H locs ls hH hS hl hN
  exact lv_istore X.1 X.2.1 d hl.has (Nat.lt_of_lt_of_le (bf_s1_lt h) hl.2.2.1) rfl (fun ls2 h2 => k H locs ls2 hH hS (bf_st1 hl h h2) hN)
/-- rule -/
def bf_r_aload_n (y : bf_M) (J : bf_J) : Prop := ∀ (pc : Nat) (L : bf_L) (S : List Value) (G : bf_G) (i : Fin 4) (x : Nat), decode y.2.1 pc = .ok (.aload_n i, 1) → L[(i : Nat)]? = some (some (.ref x)) → J (pc + 1) L (.ref x :: S) G → J pc L S G
theorem jw_aload_n (X : bf_X p s m args c E nL y) : bf_r_aload_n y (bf_JW p l e R s m args below meth c E nL N0 Q) := by
  intro pc L S G i x d h k
  intro H locs ls hH hS hl hN
  exact lv_aload_n X.1 X.2.1 d rfl (hl.2.2.2 _ _ h) (k H locs ls hH hS hl hN)
/-- rule -/
def bf_r_aload (y : bf_M) (J : bf_J) : Prop := ∀ (pc : Nat) (L : bf_L) (S : List Value) (G : bf_G) (i : Nat) (x : Nat), decode y.2.1 pc = .ok (.aload i, 2) → L[i]? = some (some (.ref x)) → J (pc + 2) L (.ref x :: S) G → J pc L S G
theorem jw_aload (X : bf_X p s m args c E nL y) : bf_r_aload y (bf_JW p l e R s m args below meth c E nL N0 Q) := by
  intro pc L S G i x d h k
  intro H locs ls hH hS hl hN
  exact lv_aload X.1 X.2.1 d (hl.2.2.2 _ _ h) (k H locs ls hH hS hl hN)
/-- rule -/
def bf_r_astore_n (y : bf_M) (J : bf_J) : Prop := ∀ (pc : Nat) (L : bf_L) (S : List Value) (G : bf_G) (i : Fin 4) (x : Nat) (L2 : bf_L), decode y.2.1 pc = .ok (.astore_n i, 1) → bf_s1 L i (.ref x) = some L2 → J (pc + 1) L2 S G → J pc L (.ref x :: S) G
theorem jw_astore_n (X : bf_X p s m args c E nL y) : bf_r_astore_n y (bf_JW p l e R s m args below meth c E nL N0 Q) := by
  intro pc L S G i x L2 d h k
  intro H locs ls hH hS hl hN
  exact lv_astore_n X.1 X.2.1 d rfl hl.has (Nat.lt_of_lt_of_le (bf_s1_lt h) hl.2.2.1) rfl (fun ls2 h2 => k H locs ls2 hH hS (bf_st1 hl h h2) hN)
/-- rule -/
def bf_r_astore (y : bf_M) (J : bf_J) : Prop := ∀ (pc : Nat) (L : bf_L) (S : List Value) (G : bf_G) (i : Nat) (x : Nat) (L2 : bf_L), decode y.2.1 pc = .ok (.astore i, 2) → bf_s1 L i (.ref x) = some L2 → J (pc + 2) L2 S G → J pc L (.ref x :: S) G
theorem jw_astore (X : bf_X p s m args c E nL y) : bf_r_astore y (bf_JW p l e R s m args below meth c E nL N0 Q) := by
  intro pc L S G i x L2 d h k
  intro H locs ls hH hS hl hN
  exact lv_astore X.1 X.2.1 d hl.has (Nat.lt_of_lt_of_le (bf_s1_lt h) hl.2.2.1) rfl (fun ls2 h2 => k H locs ls2 hH hS (bf_st1 hl h h2) hN)
/-- rule -/
def bf_r_lload_n (y : bf_M) (J : bf_J) : Prop := ∀ (pc : Nat) (L : bf_L) (S : List Value) (G : bf_G) (i : Fin 4) (x : Int64), decode y.2.1 pc = .ok (.lload_n i, 1) → L[(i : Nat)]? = some (some (.long x)) → J (pc + 1) L (.long x :: S) G → J pc L S G
theorem jw_lload_n (X : bf_X p s m args c E nL y) : bf_r_lload_n y (bf_JW p l e R s m args below meth c E nL N0 Q) := by
  intro pc L S G i x d h k
  intro H locs ls hH hS hl hN
  exact lv_lload_n X.1 X.2.1 d rfl (hl.2.2.2 _ _ h) (k H locs ls hH hS hl hN)
/-- rule -/
def bf_r_lload (y : bf_M) (J : bf_J) : Prop := ∀ (pc : Nat) (L : bf_L) (S : List Value) (G : bf_G) (i : Nat) (x : Int64), decode y.2.1 pc = .ok (.lload i, 2) → L[i]? = some (some (.long x)) → J (pc + 2) L (.long x :: S) G → J pc L S G
theorem jw_lload (X : bf_X p s m args c E nL y) : bf_r_lload y (bf_JW p l e R s m args below meth c E nL N0 Q) := by
  intro pc L S G i x d h k
  intro H locs ls hH hS hl hN
  exact lv_lload X.1 X.2.1 d (hl.2.2.2 _ _ h) (k H locs ls hH hS hl hN)
/-- rule -/
def bf_r_lstore_n (y : bf_M) (J : bf_J) : Prop := ∀ (pc : Nat) (L : bf_L) (S : List Value) (G : bf_G) (i : Fin 4) (x : Int64) (L2 : bf_L), decode y.2.1 pc = .ok (.lstore_n i, 1) → bf_s2 L i (.long x) = some L2 → J (pc + 1) L2 S G → J pc L (.long x :: S) G
theorem jw_lstore_n (X : bf_X p s m args c E nL y) : bf_r_lstore_n y (bf_JW p l e R s m args below meth c E nL N0 Q) := by
  intro pc L S G i x L2 d h k
  intro H locs ls hH hS hl hN
  exact lv_lstore_n X.1 X.2.1 d rfl hl.has (Nat.lt_of_lt_of_le (bf_s2_lt h) hl.2.2.1) rfl (fun ls2 h2 => k H locs ls2 hH hS (bf_st2 hl h h2) hN)
/-- rule -/
def bf_r_lstore (y : bf_M) (J : bf_J) : Prop := ∀ (pc : Nat) (L : bf_L) (S : List Value) (G : bf_G) (i : Nat) (x : Int64) (L2 : bf_L), decode y.2.1 pc = .ok (.lstore i, 2) → bf_s2 L i (.long x) = some L2 → J (pc + 2) L2 S G → J pc L (.long x :: S) G
theorem jw_lstore (X : bf_X p s m args c E nL y) : bf_r_lstore y (bf_JW p l e R s m args below meth c E nL N0 Q) := by
  intro pc L S G i x L2 d h k
  intro H locs ls hH hS hl hN
  exact lv_lstore X.1 X.2.1 d hl.has (Nat.lt_of_lt_of_le (bf_s2_lt h) hl.2.2.1) rfl (fun ls2 h2 => k H locs ls2 hH hS (bf_st2 hl h h2) hN)
/-- rule -/
def bf_r_iinc (y : bf_M) (J : bf_J) : Prop := ∀ (pc : Nat) (L : bf_L) (S : List Value) (G : bf_G) (i : Nat) (n : Int) (x v : Int32) (L2 : bf_L), decode y.2.1 pc = .ok (.iinc i n, 3) → L[i]? = some (some (.int x)) → x + Int32.ofInt n = v → bf_s1 L i (.int v) = some L2 → J (pc + 3) L2 S G → J pc L S G
theorem jw_iinc (X : bf_X p s m args c E nL y) : bf_r_iinc y (bf_JW p l e R s m args below meth c E nL N0 Q) := by
  intro pc L S G i n x v L2 d h1 hv h k
  intro H locs ls hH hS hl hN
  obtain ⟨k0, hk0⟩ := List.getElem?_of_mem (bf_ll_mem.mpr ⟨_, h1, rfl⟩ : (i, bf_cv (bf_ad E) (.int x)) ∈ bf_ll (bf_ad E) L)
  exact lv_iinc (k := k0) (x := x) X.1 X.2.1 d hl.has hk0 hv (Nat.lt_of_lt_of_le (bf_s1_lt h) hl.2.2.1) rfl (fun ls2 h2 => k H locs ls2 hH hS (bf_st1 hl h h2) hN)
/-- rule -/
def bf_r_iadd (y : bf_M) (J : bf_J) : Prop := ∀ (pc : Nat) (L : bf_L) (S : List Value) (G : bf_G) (x z : Int32), decode y.2.1 pc = .ok (.iadd, 1) → J (pc + 1) L (.int (x + z) :: S) G → J pc L (.int z :: .int x :: S) G
theorem jw_iadd (X : bf_X p s m args c E nL y) : bf_r_iadd y (bf_JW p l e R s m args below meth c E nL N0 Q) := by
  intro pc L S G x z d k
  intro H locs ls hH hS hl hN
  exact lv_iadd X.1 X.2.1 d (k H locs ls hH hS hl hN)
/-- rule -/
def bf_r_isub (y : bf_M) (J : bf_J) : Prop := ∀ (pc : Nat) (L : bf_L) (S : List Value) (G : bf_G) (x z : Int32), decode y.2.1 pc = .ok (.isub, 1) → J (pc + 1) L (.int (x - z) :: S) G → J pc L (.int z :: .int x :: S) G
theorem jw_isub (X : bf_X p s m args c E nL y) : bf_r_isub y (bf_JW p l e R s m args below meth c E nL N0 Q) := by
  intro pc L S G x z d k
  intro H locs ls hH hS hl hN
  exact lv_isub X.1 X.2.1 d (k H locs ls hH hS hl hN)
/-- rule -/
def bf_r_imul (y : bf_M) (J : bf_J) : Prop := ∀ (pc : Nat) (L : bf_L) (S : List Value) (G : bf_G) (x z : Int32), decode y.2.1 pc = .ok (.imul, 1) → J (pc + 1) L (.int (x * z) :: S) G → J pc L (.int z :: .int x :: S) G
theorem jw_imul (X : bf_X p s m args c E nL y) : bf_r_imul y (bf_JW p l e R s m args below meth c E nL N0 Q) := by
  intro pc L S G x z d k
  intro H locs ls hH hS hl hN
  exact lv_imul X.1 X.2.1 d (k H locs ls hH hS hl hN)
/-- rule -/
def bf_r_iand (y : bf_M) (J : bf_J) : Prop := ∀ (pc : Nat) (L : bf_L) (S : List Value) (G : bf_G) (x z : Int32), decode y.2.1 pc = .ok (.iand, 1) → J (pc + 1) L (.int (x &&& z) :: S) G → J pc L (.int z :: .int x :: S) G
theorem jw_iand (X : bf_X p s m args c E nL y) : bf_r_iand y (bf_JW p l e R s m args below meth c E nL N0 Q) := by
  intro pc L S G x z d k
  intro H locs ls hH hS hl hN
  exact lv_iand X.1 X.2.1 d (k H locs ls hH hS hl hN)
/-- rule -/
def bf_r_ior (y : bf_M) (J : bf_J) : Prop := ∀ (pc : Nat) (L : bf_L) (S : List Value) (G : bf_G) (x z : Int32), decode y.2.1 pc = .ok (.ior, 1) → J (pc + 1) L (.int (x ||| z) :: S) G → J pc L (.int z :: .int x :: S) G
theorem jw_ior (X : bf_X p s m args c E nL y) : bf_r_ior y (bf_JW p l e R s m args below meth c E nL N0 Q) := by
  intro pc L S G x z d k
  intro H locs ls hH hS hl hN
  exact lv_ior X.1 X.2.1 d (k H locs ls hH hS hl hN)
/-- rule -/
def bf_r_ixor (y : bf_M) (J : bf_J) : Prop := ∀ (pc : Nat) (L : bf_L) (S : List Value) (G : bf_G) (x z : Int32), decode y.2.1 pc = .ok (.ixor, 1) → J (pc + 1) L (.int (x ^^^ z) :: S) G → J pc L (.int z :: .int x :: S) G
theorem jw_ixor (X : bf_X p s m args c E nL y) : bf_r_ixor y (bf_JW p l e R s m args below meth c E nL N0 Q) := by
  intro pc L S G x z d k
  intro H locs ls hH hS hl hN
  exact lv_ixor X.1 X.2.1 d (k H locs ls hH hS hl hN)
/-- rule -/
def bf_r_ishl (y : bf_M) (J : bf_J) : Prop := ∀ (pc : Nat) (L : bf_L) (S : List Value) (G : bf_G) (x z : Int32), decode y.2.1 pc = .ok (.ishl, 1) → J (pc + 1) L (.int (x <<< (z &&& 31)) :: S) G → J pc L (.int z :: .int x :: S) G
theorem jw_ishl (X : bf_X p s m args c E nL y) : bf_r_ishl y (bf_JW p l e R s m args below meth c E nL N0 Q) := by
  intro pc L S G x z d k
  intro H locs ls hH hS hl hN
  exact lv_ishl X.1 X.2.1 d (k H locs ls hH hS hl hN)
/-- rule -/
def bf_r_ishr (y : bf_M) (J : bf_J) : Prop := ∀ (pc : Nat) (L : bf_L) (S : List Value) (G : bf_G) (x z : Int32), decode y.2.1 pc = .ok (.ishr, 1) → J (pc + 1) L (.int (x >>> (z &&& 31)) :: S) G → J pc L (.int z :: .int x :: S) G
theorem jw_ishr (X : bf_X p s m args c E nL y) : bf_r_ishr y (bf_JW p l e R s m args below meth c E nL N0 Q) := by
  intro pc L S G x z d k
  intro H locs ls hH hS hl hN
  exact lv_ishr X.1 X.2.1 d (k H locs ls hH hS hl hN)
/-- rule -/
def bf_r_iushr (y : bf_M) (J : bf_J) : Prop := ∀ (pc : Nat) (L : bf_L) (S : List Value) (G : bf_G) (x z v : Int32), decode y.2.1 pc = .ok (.iushr, 1) → (x.toUInt32 >>> (z.toUInt32 &&& Int32.toUInt32 31)).toInt32 = v → J (pc + 1) L (.int v :: S) G → J pc L (.int z :: .int x :: S) G
theorem jw_iushr (X : bf_X p s m args c E nL y) : bf_r_iushr y (bf_JW p l e R s m args below meth c E nL N0 Q) := by
  intro pc L S G x z v d hv k
  intro H locs ls hH hS hl hN
  exact lv_iushr X.1 X.2.1 d hv (k H locs ls hH hS hl hN)
/-- rule -/
def bf_r_idiv (y : bf_M) (J : bf_J) : Prop := ∀ (pc : Nat) (L : bf_L) (S : List Value) (G : bf_G) (x z : Int32), decode y.2.1 pc = .ok (.idiv, 1) → ¬ z = 0 → J (pc + 1) L (.int (x / z) :: S) G → J pc L (.int z :: .int x :: S) G
theorem jw_idiv (X : bf_X p s m args c E nL y) : bf_r_idiv y (bf_JW p l e R s m args below meth c E nL N0 Q) := by
  intro pc L S G x z d h k
  intro H locs ls hH hS hl hN
  exact lv_idiv X.1 X.2.1 d h (k H locs ls hH hS hl hN)
/-- rule -/
def bf_r_irem (y : bf_M) (J : bf_J) : Prop := ∀ (pc : Nat) (L : bf_L) (S : List Value) (G : bf_G) (x z : Int32), decode y.2.1 pc = .ok (.irem, 1) → ¬ z = 0 → J (pc + 1) L (.int (x - x / z * z) :: S) G → J pc L (.int z :: .int x :: S) G
theorem jw_irem (X : bf_X p s m args c E nL y) : bf_r_irem y (bf_JW p l e R s m args below meth c E nL N0 Q) := by
  intro pc L S G x z d h k
  intro H locs ls hH hS hl hN
  exact lv_irem X.1 X.2.1 d h (k H locs ls hH hS hl hN)
/-- rule -/
def bf_r_ladd (y : bf_M) (J : bf_J) : Prop := ∀ (pc : Nat) (L : bf_L) (S : List Value) (G : bf_G) (x z : Int64), decode y.2.1 pc = .ok (.ladd, 1) → J (pc + 1) L (.long (x + z) :: S) G → J pc L (.long z :: .long x :: S) G
theorem jw_ladd (X : bf_X p s m args c E nL y) : bf_r_ladd y (bf_JW p l e R s m args below meth c E nL N0 Q) := by
  intro pc L S G x z d k
  intro H locs ls hH hS hl hN
  exact lv_ladd X.1 X.2.1 d (k H locs ls hH hS hl hN)
/-- rule -/
def bf_r_lsub (y : bf_M) (J : bf_J) : Prop := ∀ (pc : Nat) (L : bf_L) (S : List Value) (G : bf_G) (x z : Int64), decode y.2.1 pc = .ok (.lsub, 1) → J (pc + 1) L (.long (x - z) :: S) G → J pc L (.long z :: .long x :: S) G
theorem jw_lsub (X : bf_X p s m args c E nL y) : bf_r_lsub y (bf_JW p l e R s m args below meth c E nL N0 Q) := by
  intro pc L S G x z d k
  intro H locs ls hH hS hl hN
  exact lv_lsub X.1 X.2.1 d (k H locs ls hH hS hl hN)
/-- rule -/
def bf_r_lmul (y : bf_M) (J : bf_J) : Prop := ∀ (pc : Nat) (L : bf_L) (S : List Value) (G : bf_G) (x z : Int64), decode y.2.1 pc = .ok (.lmul, 1) → J (pc + 1) L (.long (x * z) :: S) G → J pc L (.long z :: .long x :: S) G
theorem jw_lmul (X : bf_X p s m args c E nL y) : bf_r_lmul y (bf_JW p l e R s m args below meth c E nL N0 Q) := by
  intro pc L S G x z d k
  intro H locs ls hH hS hl hN
  exact lv_lmul X.1 X.2.1 d (k H locs ls hH hS hl hN)
/-- rule -/
def bf_r_ldiv (y : bf_M) (J : bf_J) : Prop := ∀ (pc : Nat) (L : bf_L) (S : List Value) (G : bf_G) (x z : Int64), decode y.2.1 pc = .ok (.ldiv, 1) → ¬ z = 0 → J (pc + 1) L (.long (x / z) :: S) G → J pc L (.long z :: .long x :: S) G
theorem jw_ldiv (X : bf_X p s m args c E nL y) : bf_r_ldiv y (bf_JW p l e R s m args below meth c E nL N0 Q) := by
  intro pc L S G x z d h k
  intro H locs ls hH hS hl hN
  exact lv_ldiv X.1 X.2.1 d h (k H locs ls hH hS hl hN)
/-- rule -/
def bf_r_lrem (y : bf_M) (J : bf_J) : Prop := ∀ (pc : Nat) (L : bf_L) (S : List Value) (G : bf_G) (x z : Int64), decode y.2.1 pc = .ok (.lrem, 1) → ¬ z = 0 → J (pc + 1) L (.long (x - x / z * z) :: S) G → J pc L (.long z :: .long x :: S) G
theorem jw_lrem (X : bf_X p s m args c E nL y) : bf_r_lrem y (bf_JW p l e R s m args below meth c E nL N0 Q) := by
  intro pc L S G x z d h k
  intro H locs ls hH hS hl hN
  exact lv_lrem X.1 X.2.1 d h (k H locs ls hH hS hl hN)
/-- rule -/
def bf_r_lcmp (y : bf_M) (J : bf_J) : Prop := ∀ (pc : Nat) (L : bf_L) (S : List Value) (G : bf_G) (x z : Int64), decode y.2.1 pc = .ok (.lcmp, 1) → J (pc + 1) L (.int (lg_cmp x z) :: S) G → J pc L (.long z :: .long x :: S) G
theorem jw_lcmp (X : bf_X p s m args c E nL y) : bf_r_lcmp y (bf_JW p l e R s m args below meth c E nL N0 Q) := by
  intro pc L S G x z d k
  intro H locs ls hH hS hl hN
  exact W.lcmp X.1 X.2.1 d (k H locs ls hH hS hl hN)
/-- rule -/
def bf_r_i2l (y : bf_M) (J : bf_J) : Prop := ∀ (pc : Nat) (L : bf_L) (S : List Value) (G : bf_G) (x : Int32), decode y.2.1 pc = .ok (.i2l, 1) → J (pc + 1) L (.long x.toInt64 :: S) G → J pc L (.int x :: S) G
theorem jw_i2l (X : bf_X p s m args c E nL y) : bf_r_i2l y (bf_JW p l e R s m args below meth c E nL N0 Q) := by
  intro pc L S G x d k
  intro H locs ls hH hS hl hN
  exact lv_i2l X.1 X.2.1 d rfl (k H locs ls hH hS hl hN)
/-- rule -/
def bf_r_i2b (y : bf_M) (J : bf_J) : Prop := ∀ (pc : Nat) (L : bf_L) (S : List Value) (G : bf_G) (x : Int32), decode y.2.1 pc = .ok (.i2b, 1) → J (pc + 1) L (.int x.toInt8.toInt32 :: S) G → J pc L (.int x :: S) G
theorem jw_i2b (X : bf_X p s m args c E nL y) : bf_r_i2b y (bf_JW p l e R s m args below meth c E nL N0 Q) := by
  intro pc L S G x d k
  intro H locs ls hH hS hl hN
  exact lv_i2b X.1 X.2.1 d rfl (k H locs ls hH hS hl hN)
/-- rule -/
def bf_r_i2s (y : bf_M) (J : bf_J) : Prop := ∀ (pc : Nat) (L : bf_L) (S : List Value) (G : bf_G) (x : Int32), decode y.2.1 pc = .ok (.i2s, 1) → J (pc + 1) L (.int x.toInt16.toInt32 :: S) G → J pc L (.int x :: S) G
theorem jw_i2s (X : bf_X p s m args c E nL y) : bf_r_i2s y (bf_JW p l e R s m args below meth c E nL N0 Q) := by
  intro pc L S G x d k
  intro H locs ls hH hS hl hN
  exact lv_i2s X.1 X.2.1 d rfl (k H locs ls hH hS hl hN)
/-- rule -/
def bf_r_dup (y : bf_M) (J : bf_J) : Prop := ∀ (pc : Nat) (L : bf_L) (S : List Value) (G : bf_G) (v : Value), decode y.2.1 pc = .ok (.dup, 1) → v.category = 1 → J (pc + 1) L (v :: v :: S) G → J pc L (v :: S) G
theorem jw_dup (X : bf_X p s m args c E nL y) : bf_r_dup y (bf_JW p l e R s m args below meth c E nL N0 Q) := by
  intro pc L S G v d h k
  intro H locs ls hH hS hl hN
  exact lv_dup X.1 X.2.1 d ((bf_cat _ v).trans h) (k H locs ls hH hS hl hN)
/-- rule -/
def bf_r_dup2 (y : bf_M) (J : bf_J) : Prop := ∀ (pc : Nat) (L : bf_L) (S : List Value) (G : bf_G) (v w : Value), decode y.2.1 pc = .ok (.dup2, 1) → v.category = 1 → w.category = 1 → J (pc + 1) L (v :: w :: v :: w :: S) G → J pc L (v :: w :: S) G
theorem jw_dup2 (X : bf_X p s m args c E nL y) : bf_r_dup2 y (bf_JW p l e R s m args below meth c E nL N0 Q) := by
  intro pc L S G v w d h h2 k
  intro H locs ls hH hS hl hN
  exact lv_dup2_11 X.1 X.2.1 d ((bf_cat _ v).trans h) ((bf_cat _ w).trans h2) (k H locs ls hH hS hl hN)
/-- rule -/
def bf_r_if_eq (y : bf_M) (J : bf_J) : Prop := ∀ (pc : Nat) (L : bf_L) (S : List Value) (G : bf_G) (x : Int32) (off : Int) (tgt : Nat), decode y.2.1 pc = .ok (.ifCond .eq off, 3) → (pc : Int) + off = (tgt : Int) → (x = 0 → J tgt L S G) → (¬ x = 0 → J (pc + 3) L S G) → J pc L (.int x :: S) G
theorem jw_if_eq (X : bf_X p s m args c E nL y) : bf_r_if_eq y (bf_JW p l e R s m args below meth c E nL N0 Q) := by
  intro pc L S G x off tgt d ht kt kf
  intro H locs ls hH hS hl hN
  exact lv_if_eq X.1 X.2.1 d ht (fun q => kt q H locs ls hH hS hl hN) (fun q => kf q H locs ls hH hS hl hN)
/-- rule -/
def bf_r_icmp_eq (y : bf_M) (J : bf_J) : Prop := ∀ (pc : Nat) (L : bf_L) (S : List Value) (G : bf_G) (x z : Int32) (off : Int) (tgt : Nat), decode y.2.1 pc = .ok (.if_icmp .eq off, 3) → (pc : Int) + off = (tgt : Int) → (x = z → J tgt L S G) → (¬ x = z → J (pc + 3) L S G) → J pc L (.int z :: .int x :: S) G
theorem jw_icmp_eq (X : bf_X p s m args c E nL y) : bf_r_icmp_eq y (bf_JW p l e R s m args below meth c E nL N0 Q) := by
  intro pc L S G x z off tgt d ht kt kf
  intro H locs ls hH hS hl hN
  exact lv_icmp_eq X.1 X.2.1 d ht (fun q => kt q H locs ls hH hS hl hN) (fun q => kf q H locs ls hH hS hl hN)
/-- rule -/
def bf_r_if_ne (y : bf_M) (J : bf_J) : Prop := ∀ (pc : Nat) (L : bf_L) (S : List Value) (G : bf_G) (x : Int32) (off : Int) (tgt : Nat), decode y.2.1 pc = .ok (.ifCond .ne off, 3) → (pc : Int) + off = (tgt : Int) → (¬ x = 0 → J tgt L S G) → (x = 0 → J (pc + 3) L S G) → J pc L (.int x :: S) G
theorem jw_if_ne (X : bf_X p s m args c E nL y) : bf_r_if_ne y (bf_JW p l e R s m args below meth c E nL N0 Q) := by
  intro pc L S G x off tgt d ht kt kf
  intro H locs ls hH hS hl hN
  exact lv_if_ne X.1 X.2.1 d ht (fun q => kt q H locs ls hH hS hl hN) (fun q => kf q H locs ls hH hS hl hN)
/-- rule -/
def bf_r_icmp_ne (y : bf_M) (J : bf_J) : Prop := ∀ (pc : Nat) (L : bf_L) (S : List Value) (G : bf_G) (x z : Int32) (off : Int) (tgt : Nat), decode y.2.1 pc = .ok (.if_icmp .ne off, 3) → (pc : Int) + off = (tgt : Int) → (¬ x = z → J tgt L S G) → (x = z → J (pc + 3) L S G) → J pc L (.int z :: .int x :: S) G
theorem jw_icmp_ne (X : bf_X p s m args c E nL y) : bf_r_icmp_ne y (bf_JW p l e R s m args below meth c E nL N0 Q) := by
  intro pc L S G x z off tgt d ht kt kf
  intro H locs ls hH hS hl hN
  exact lv_icmp_ne X.1 X.2.1 d ht (fun q => kt q H locs ls hH hS hl hN) (fun q => kf q H locs ls hH hS hl hN)
/-- rule -/
def bf_r_if_lt (y : bf_M) (J : bf_J) : Prop := ∀ (pc : Nat) (L : bf_L) (S : List Value) (G : bf_G) (x : Int32) (off : Int) (tgt : Nat), decode y.2.1 pc = .ok (.ifCond .lt off, 3) → (pc : Int) + off = (tgt : Int) → (x < 0 → J tgt L S G) → (¬ x < 0 → J (pc + 3) L S G) → J pc L (.int x :: S) G
theorem jw_if_lt (X : bf_X p s m args c E nL y) : bf_r_if_lt y (bf_JW p l e R s m args below meth c E nL N0 Q) := by
  intro pc L S G x off tgt d ht kt kf
  intro H locs ls hH hS hl hN
  exact lv_if_lt X.1 X.2.1 d ht (fun q => kt q H locs ls hH hS hl hN) (fun q => kf q H locs ls hH hS hl hN)
/-- rule -/
def bf_r_icmp_lt (y : bf_M) (J : bf_J) : Prop := ∀ (pc : Nat) (L : bf_L) (S : List Value) (G : bf_G) (x z : Int32) (off : Int) (tgt : Nat), decode y.2.1 pc = .ok (.if_icmp .lt off, 3) → (pc : Int) + off = (tgt : Int) → (x < z → J tgt L S G) → (¬ x < z → J (pc + 3) L S G) → J pc L (.int z :: .int x :: S) G
theorem jw_icmp_lt (X : bf_X p s m args c E nL y) : bf_r_icmp_lt y (bf_JW p l e R s m args below meth c E nL N0 Q) := by
  intro pc L S G x z off tgt d ht kt kf
  intro H locs ls hH hS hl hN
  exact lv_icmp_lt X.1 X.2.1 d ht (fun q => kt q H locs ls hH hS hl hN) (fun q => kf q H locs ls hH hS hl hN)
/-- rule -/
def bf_r_if_ge (y : bf_M) (J : bf_J) : Prop := ∀ (pc : Nat) (L : bf_L) (S : List Value) (G : bf_G) (x : Int32) (off : Int) (tgt : Nat), decode y.2.1 pc = .ok (.ifCond .ge off, 3) → (pc : Int) + off = (tgt : Int) → (0 ≤ x → J tgt L S G) → (¬ 0 ≤ x → J (pc + 3) L S G) → J pc L (.int x :: S) G
theorem jw_if_ge (X : bf_X p s m args c E nL y) : bf_r_if_ge y (bf_JW p l e R s m args below meth c E nL N0 Q) := by
  intro pc L S G x off tgt d ht kt kf
  intro H locs ls hH hS hl hN
  exact lv_if_ge X.1 X.2.1 d ht (fun q => kt q H locs ls hH hS hl hN) (fun q => kf q H locs ls hH hS hl hN)
/-- rule -/
def bf_r_icmp_ge (y : bf_M) (J : bf_J) : Prop := ∀ (pc : Nat) (L : bf_L) (S : List Value) (G : bf_G) (x z : Int32) (off : Int) (tgt : Nat), decode y.2.1 pc = .ok (.if_icmp .ge off, 3) → (pc : Int) + off = (tgt : Int) → (z ≤ x → J tgt L S G) → (¬ z ≤ x → J (pc + 3) L S G) → J pc L (.int z :: .int x :: S) G
theorem jw_icmp_ge (X : bf_X p s m args c E nL y) : bf_r_icmp_ge y (bf_JW p l e R s m args below meth c E nL N0 Q) := by
  intro pc L S G x z off tgt d ht kt kf
  intro H locs ls hH hS hl hN
  exact lv_icmp_ge X.1 X.2.1 d ht (fun q => kt q H locs ls hH hS hl hN) (fun q => kf q H locs ls hH hS hl hN)
/-- rule -/
def bf_r_if_gt (y : bf_M) (J : bf_J) : Prop := ∀ (pc : Nat) (L : bf_L) (S : List Value) (G : bf_G) (x : Int32) (off : Int) (tgt : Nat), decode y.2.1 pc = .ok (.ifCond .gt off, 3) → (pc : Int) + off = (tgt : Int) → (0 < x → J tgt L S G) → (¬ 0 < x → J (pc + 3) L S G) → J pc L (.int x :: S) G
theorem jw_if_gt (X : bf_X p s m args c E nL y) : bf_r_if_gt y (bf_JW p l e R s m args below meth c E nL N0 Q) := by
  intro pc L S G x off tgt d ht kt kf
  intro H locs ls hH hS hl hN
  exact lv_if_gt X.1 X.2.1 d ht (fun q => kt q H locs ls hH hS hl hN) (fun q => kf q H locs ls hH hS hl hN)
/-- rule -/
def bf_r_icmp_gt (y : bf_M) (J : bf_J) : Prop := ∀ (pc : Nat) (L : bf_L) (S : List Value) (G : bf_G) (x z : Int32) (off : Int) (tgt : Nat), decode y.2.1 pc = .ok (.if_icmp .gt off, 3) → (pc : Int) + off = (tgt : Int) → (z < x → J tgt L S G) → (¬ z < x → J (pc + 3) L S G) → J pc L (.int z :: .int x :: S) G
theorem jw_icmp_gt (X : bf_X p s m args c E nL y) : bf_r_icmp_gt y (bf_JW p l e R s m args below meth c E nL N0 Q) := by
  intro pc L S G x z off tgt d ht kt kf
  intro H locs ls hH hS hl hN
  exact lv_icmp_gt X.1 X.2.1 d ht (fun q => kt q H locs ls hH hS hl hN) (fun q => kf q H locs ls hH hS hl hN)
/-- rule -/
def bf_r_if_le (y : bf_M) (J : bf_J) : Prop := ∀ (pc : Nat) (L : bf_L) (S : List Value) (G : bf_G) (x : Int32) (off : Int) (tgt : Nat), decode y.2.1 pc = .ok (.ifCond .le off, 3) → (pc : Int) + off = (tgt : Int) → (x ≤ 0 → J tgt L S G) → (¬ x ≤ 0 → J (pc + 3) L S G) → J pc L (.int x :: S) G
theorem jw_if_le (X : bf_X p s m args c E nL y) : bf_r_if_le y (bf_JW p l e R s m args below meth c E nL N0 Q) := by
  intro pc L S G x off tgt d ht kt kf
  intro H locs ls hH hS hl hN
  exact lv_if_le X.1 X.2.1 d ht (fun q => kt q H locs ls hH hS hl hN) (fun q => kf q H locs ls hH hS hl hN)
/-- rule -/
def bf_r_icmp_le (y : bf_M) (J : bf_J) : Prop := ∀ (pc : Nat) (L : bf_L) (S : List Value) (G : bf_G) (x z : Int32) (off : Int) (tgt : Nat), decode y.2.1 pc = .ok (.if_icmp .le off, 3) → (pc : Int) + off = (tgt : Int) → (x ≤ z → J tgt L S G) → (¬ x ≤ z → J (pc + 3) L S G) → J pc L (.int z :: .int x :: S) G
theorem jw_icmp_le (X : bf_X p s m args c E nL y) : bf_r_icmp_le y (bf_JW p l e R s m args below meth c E nL N0 Q) := by
  intro pc L S G x z off tgt d ht kt kf
  intro H locs ls hH hS hl hN
  exact lv_icmp_le X.1 X.2.1 d ht (fun q => kt q H locs ls hH hS hl hN) (fun q => kf q H locs ls hH hS hl hN)
/-- rule -/
def bf_r_goto (y : bf_M) (J : bf_J) : Prop := ∀ (pc : Nat) (L : bf_L) (S : List Value) (G : bf_G) (off : Int) (tgt : Nat), decode y.2.1 pc = .ok (.goto off, 3) → (pc : Int) + off = (tgt : Int) → J tgt L S G → J pc L S G
theorem jw_goto (X : bf_X p s m args c E nL y) : bf_r_goto y (bf_JW p l e R s m args below meth c E nL N0 Q) := by
  intro pc L S G off tgt d ht k
  intro H locs ls hH hS hl hN
  exact lv_goto X.1 X.2.1 d ht (k H locs ls hH hS hl hN)
/-- rule -/
def bf_r_tabIn (y : bf_M) (J : bf_J) : Prop := ∀ (pc : Nat) (L : bf_L) (S : List Value) (G : bf_G) (df lo hi : Int) (offs : Array Int) (len : Nat) (x : Int32) (off : Int) (tgt : Nat), decode y.2.1 pc = .ok (.tableswitch df lo hi offs, len) → ¬ x.toInt < lo → ¬ hi < x.toInt → offs[(x.toInt - lo).toNat]? = some off → (pc : Int) + off = (tgt : Int) → J tgt L S G → J pc L (.int x :: S) G
theorem jw_tabIn (X : bf_X p s m args c E nL y) : bf_r_tabIn y (bf_JW p l e R s m args below meth c E nL N0 Q) := by
  intro pc L S G df lo hi offs len x off tgt d h1 h2 ho ht k
  intro H locs ls hH hS hl hN
  exact lv_tableIn X.1 X.2.1 d h1 h2 ho ht (k H locs ls hH hS hl hN)
/-- rule -/
def bf_r_tabOut (y : bf_M) (J : bf_J) : Prop := ∀ (pc : Nat) (L : bf_L) (S : List Value) (G : bf_G) (df lo hi : Int) (offs : Array Int) (len : Nat) (x : Int32) (tgt : Nat), decode y.2.1 pc = .ok (.tableswitch df lo hi offs, len) → x.toInt < lo ∨ hi < x.toInt → (pc : Int) + df = (tgt : Int) → J tgt L S G → J pc L (.int x :: S) G
theorem jw_tabOut (X : bf_X p s m args c E nL y) : bf_r_tabOut y (bf_JW p l e R s m args below meth c E nL N0 Q) := by
  intro pc L S G df lo hi offs len x tgt d h1 ht k
  intro H locs ls hH hS hl hN
  exact lv_tableOut X.1 X.2.1 d h1 ht (k H locs ls hH hS hl hN)
/-- rule -/
def bf_r_lookup (y : bf_M) (J : bf_J) : Prop := ∀ (pc : Nat) (L : bf_L) (S : List Value) (G : bf_G) (df : Int) (ps : Array (Int × Int)) (len : Nat) (x : Int32) (off : Int) (tgt : Nat), decode y.2.1 pc = .ok (.lookupswitch df ps, len) → (ps.toList.zip (ps.toList.drop 1)).all (fun (a, next) => a.1 < next.1) = true → Op.lookupswitch.offset ps.toList df x.toInt = off → (pc : Int) + off = (tgt : Int) → J tgt L S G → J pc L (.int x :: S) G
theorem jw_lookup (X : bf_X p s m args c E nL y) : bf_r_lookup y (bf_JW p l e R s m args below meth c E nL N0 Q) := by
  intro pc L S G df ps len x off tgt d hp ho ht k
  intro H locs ls hH hS hl hN
  exact lv_lookup X.1 X.2.1 d hp ho ht (k H locs ls hH hS hl hN)
/-- rule -/
def bf_r_get (y : bf_M) (J : bf_J) : Prop := ∀ (pc : Nat) (L : bf_L) (S : List Value) (G : bf_G) (i ci j a : Nat), decode y.2.1 pc = .ok (.getfield i, 3) → bf_fl y.1.cls i ci j → (bf_kd a).1 = ci → a < G.1 → J (pc + 3) L (G.2 a j :: S) G → J pc L (.ref a :: S) G
theorem jw_get (X : bf_X p s m args c E nL y) : bf_r_get y (bf_JW p l e R s m args below meth c E nL N0 Q) := by
  intro pc L S G i ci j a d hf hk ha k
  intro H locs ls hH hS hl hN
  exact jw_getp X d hf hk ha hH (k H locs ls hH hS hl hN)
/-- rule -/
def bf_r_put (y : bf_M) (J : bf_J) : Prop := ∀ (pc : Nat) (L : bf_L) (S : List Value) (G : bf_G) (i ci j a : Nat) (v : Int32), decode y.2.1 pc = .ok (.putfield i, 3) → bf_fp y.1.cls i ci j → (bf_kd a).1 = ci → a < G.1 → J (pc + 3) L S (G.1, bf_up G.2 a j (.int v)) → J pc L (.int v :: .ref a :: S) G
theorem jw_put (X : bf_X p s m args c E nL y) : bf_r_put y (bf_JW p l e R s m args below meth c E nL N0 Q) := by
  intro pc L S G i ci j a v d hf hk ha k
  intro H locs ls hH hS hl hN
  exact jw_putp X d hf hk ha hH hS (fun H1 locs1 h1 h2 => k H1 locs1 ls h1 h2 hl hN)
/-- rule -/
def bf_r_iald (y : bf_M) (J : bf_J) : Prop := ∀ (pc : Nat) (L : bf_L) (S : List Value) (G : bf_G) (a n : Nat) (i : Int32), decode y.2.1 pc = .ok (.iaload, 1) → bf_kd a = (9, n) → a < G.1 → vp_in i n → J (pc + 1) L (G.2 a i.toNatClampNeg :: S) G → J pc L (.int i :: .ref a :: S) G
theorem jw_iald (X : bf_X p s m args c E nL y) : bf_r_iald y (bf_JW p l e R s m args below meth c E nL N0 Q) := by
  intro pc L S G a n i d hk ha hi k
  intro H locs ls hH hS hl hN
  have hc := (hH.2.2 a ha).arr hk (by decide)
  exact W.iald (v := bf_cv (bf_ad E) (G.2 a i.toNatClampNeg)) X.1 X.2.1 hc ((X.2.2.2.2.2.1.1.2 0 _ rfl).1 n _) (fun q => by cases q) (by rw [arrV_size]; exact hi) (by rw [arrV_read _ _ (Nat.not_le.mp fun q => hi (Or.inr q))]) rfl rfl d (k H locs ls hH hS hl hN)
/-- rule -/
def bf_r_iast (y : bf_M) (J : bf_J) : Prop := ∀ (pc : Nat) (L : bf_L) (S : List Value) (G : bf_G) (a n : Nat) (i v : Int32), decode y.2.1 pc = .ok (.iastore, 1) → bf_kd a = (9, n) → a < G.1 → vp_in i n → J (pc + 1) L S (G.1, bf_up G.2 a i.toNatClampNeg (.int v)) → J pc L (.int v :: .int i :: .ref a :: S) G
theorem jw_iast (X : bf_X p s m args c E nL y) : bf_r_iast y (bf_JW p l e R s m args below meth c E nL N0 Q) := by
  intro pc L S G a n i v d hk ha hi k
  intro H locs ls hH hS hl hN
  have hc := (hH.2.2 a ha).arr hk (by decide)
  refine W.iast X.1 X.2.1 hc ((X.2.2.2.2.2.1.1.2 0 _ rfl).1 n _) (fun q => by cases q) (by rw [arrV_size]; exact hi) rfl rfl d (fun H1 e1 z1 o1 => ?_)
  refine k H1 _ ls (hH.put ha z1 o1 ?_ (fun b j hb => by simp [bf_up, hb])) (bf_S.put hS z1 o1 (Nat.lt_of_lt_of_le ha hH.1)) hl hN
  unfold bf_C
  rw [hk, if_neg (by simp), e1, arrV_store]
  congr 2
  funext j
  by_cases hj : j = i.toNatClampNeg
  · simp [updV, bf_up, hj, bf_cv]
  · simp [updV, bf_up, hj]
/-- rule -/
def bf_r_aald (y : bf_M) (J : bf_J) : Prop := ∀ (pc : Nat) (L : bf_L) (S : List Value) (G : bf_G) (a ci n b : Nat) (i : Int32), decode y.2.1 pc = .ok (.aaload, 1) → ci = 10 ∨ ci = 11 → bf_kd a = (ci, n) → a < G.1 → vp_in i n → G.2 a i.toNatClampNeg = .ref b → J (pc + 1) L (.ref b :: S) G → J pc L (.int i :: .ref a :: S) G
theorem jw_aald (X : bf_X p s m args c E nL y) : bf_r_aald y (bf_JW p l e R s m args below meth c E nL N0 Q) := by
  intro pc L S G a ci n b i d hc hk ha hi hb k
  intro H locs ls hH hS hl hN
  have hcc := (hH.2.2 a ha).arr hk (by omega)
  have hk2 := k H locs ls hH hS hl hN
  rcases hc with rfl | rfl
  · exact W.aald (ty := .object RX3) (v := .ref (bf_ad E b)) X.1 X.2.1 hcc ((X.2.2.2.2.2.1.1.2 1 _ rfl).1 n _) rfl (fun q => by cases q) (by rw [arrV_size]; exact hi) (by rw [arrV_read _ _ (Nat.not_le.mp fun q => hi (Or.inr q)), hb]; rfl) rfl rfl d hk2
  · exact W.aald (ty := .object RX5) (v := .ref (bf_ad E b)) X.1 X.2.1 hcc ((X.2.2.2.2.2.1.1.2 2 _ rfl).1 n _) rfl (fun q => by cases q) (by rw [arrV_size]; exact hi) (by rw [arrV_read _ _ (Nat.not_le.mp fun q => hi (Or.inr q)), hb]; rfl) rfl rfl d hk2
/-- rule -/
def bf_r_alen (y : bf_M) (J : bf_J) : Prop := ∀ (pc : Nat) (L : bf_L) (S : List Value) (G : bf_G) (a n : Nat) (v : Int32), decode y.2.1 pc = .ok (.arraylength, 1) → bf_kd a = (9, n) → a < G.1 → Int32.ofNat n = v → J (pc + 1) L (.int v :: S) G → J pc L (.ref a :: S) G
theorem jw_alen (X : bf_X p s m args c E nL y) : bf_r_alen y (bf_JW p l e R s m args below meth c E nL N0 Q) := by
  intro pc L S G a n v d hk ha hv k
  intro H locs ls hH hS hl hN
  have hc := (hH.2.2 a ha).arr hk (by decide)
  exact W.alen X.1 X.2.1 hc ((X.2.2.2.2.2.1.1.2 0 _ rfl).1 n _) (by rw [arrV_size]; exact hv) rfl rfl d (k H locs ls hH hS hl hN)
/-- rule -/
def bf_r_gsF (y : bf_M) (J : bf_J) : Prop := ∀ (pc : Nat) (L : bf_L) (S : List Value) (G : bf_G) (i : Nat), decode y.2.1 pc = .ok (.getstatic i, 3) → Cond.fieldLink y.1.cls i RX0 "FIGURES" "[I" ∈ lw_tbl → J (pc + 3) L (.ref 100 :: S) G → J pc L S G
theorem jw_gsF (X : bf_X p s m args c E nL y) : bf_r_gsF y (bf_JW p l e R s m args below meth c E nL N0 Q) := by
  intro pc L S G i d hw k
  intro H locs ls hH hS hl hN
  exact va_gets X.1 X.2.1 X.2.2.2.2.2.2.1.1 hS X.2.2.2.1 (X.2.2.2.2.1 _ hw rfl) (fun _ h => h) d (k H locs ls hH hS hl hN)
/-- rule -/
def bf_r_gsG (y : bf_M) (J : bf_J) : Prop := ∀ (pc : Nat) (L : bf_L) (S : List Value) (G : bf_G) (i : Nat), decode y.2.1 pc = .ok (.getstatic i, 3) → Cond.fieldLink y.1.cls i RX7 "GREATEST" "[I" ∈ lw_tbl → J (pc + 3) L (.ref 101 :: S) G → J pc L S G
theorem jw_gsG (X : bf_X p s m args c E nL y) : bf_r_gsG y (bf_JW p l e R s m args below meth c E nL N0 Q) := by
  intro pc L S G i d hw k
  intro H locs ls hH hS hl hN
  exact va_gets X.1 X.2.1 X.2.2.2.2.2.2.2.1 hS X.2.2.2.1 (X.2.2.2.2.1 _ hw rfl) (fun _ h => h) d (k H locs ls hH hS hl hN)
/-- rule -/
def bf_r_ldF (y : bf_M) (J : bf_J) : Prop := ∀ (pc : Nat) (L : bf_L) (S : List Value) (G : bf_G) (i : Int32), decode y.2.1 pc = .ok (.iaload, 1) → vp_in i 10 → J (pc + 1) L (.int (bf_fig i.toNatClampNeg) :: S) G → J pc L (.int i :: .ref 100 :: S) G
theorem jw_ldF (X : bf_X p s m args c E nL y) : bf_r_ldF y (bf_JW p l e R s m args below meth c E nL N0 Q) := by
  intro pc L S G i d hi k
  intro H locs ls hH hS hl hN
  exact va_ti X.1 X.2.1 X.2.2.2.2.2.2.1.2 hS hi rfl d (k H locs ls hH hS hl hN)
/-- rule -/
def bf_r_ldG (y : bf_M) (J : bf_J) : Prop := ∀ (pc : Nat) (L : bf_L) (S : List Value) (G : bf_G) (i : Int32), decode y.2.1 pc = .ok (.iaload, 1) → vp_in i 3 → J (pc + 1) L (.int (bf_gre i.toNatClampNeg) :: S) G → J pc L (.int i :: .ref 101 :: S) G
theorem jw_ldG (X : bf_X p s m args c E nL y) : bf_r_ldG y (bf_JW p l e R s m args below meth c E nL N0 Q) := by
  intro pc L S G i d hi k
  intro H locs ls hH hS hl hN
  exact va_ti X.1 X.2.1 X.2.2.2.2.2.2.2.2 hS hi rfl d (k H locs ls hH hS hl hN)
/-- rule -/
def bf_r_lenG (y : bf_M) (J : bf_J) : Prop := ∀ (pc : Nat) (L : bf_L) (S : List Value) (G : bf_G), decode y.2.1 pc = .ok (.arraylength, 1) → J (pc + 1) L (.int 3 :: S) G → J pc L (.ref 101 :: S) G
theorem jw_lenG (X : bf_X p s m args c E nL y) : bf_r_lenG y (bf_JW p l e R s m args below meth c E nL N0 Q) := by
  intro pc L S G d k
  intro H locs ls hH hS hl hN
  exact va_tlen X.1 X.2.1 X.2.2.2.2.2.2.2.2 hS rfl d (k H locs ls hH hS hl hN)
/-- rule -/
def bf_r_name (y : bf_M) (J : bf_J) : Prop := ∀ (pc : Nat) (L : bf_L) (S : List Value) (G : bf_G) (x : Int32), (∀ z : Int32, z = x → J pc L (.int z :: S) G) → J pc L (.int x :: S) G
theorem jw_name (X : bf_X p s m args c E nL y) : bf_r_name y (bf_JW p l e R s m args below meth c E nL N0 Q) := by
  intro pc L S G x k
  intro H locs ls hH hS hl hN
  exact k x rfl H locs ls hH hS hl hN
end bfW
def bf_Ru (y : bf_M) (J : bf_J) : Prop := bf_r_iconst y J ∧ bf_r_bipush y J ∧ bf_r_sipush y J ∧ bf_r_lconst y J ∧ bf_r_ldcw y J ∧ bf_r_ldc2 y J ∧ bf_r_iload_n y J ∧ bf_r_iload y J ∧ bf_r_istore_n y J ∧ bf_r_istore y J ∧ bf_r_aload_n y J ∧ bf_r_aload y J ∧ bf_r_astore_n y J ∧ bf_r_astore y J ∧ bf_r_lload_n y J ∧ bf_r_lload y J ∧ bf_r_lstore_n y J ∧ bf_r_lstore y J ∧ bf_r_iinc y J ∧ bf_r_iadd y J ∧ bf_r_isub y J ∧ bf_r_imul y J ∧ bf_r_iand y J ∧ bf_r_ior y J ∧ bf_r_ixor y J ∧ bf_r_ishl y J ∧ bf_r_ishr y J ∧ bf_r_iushr y J ∧ bf_r_idiv y J ∧ bf_r_irem y J ∧ bf_r_ladd y J ∧ bf_r_lsub y J ∧ bf_r_lmul y J ∧ bf_r_ldiv y J ∧ bf_r_lrem y J ∧ bf_r_lcmp y J ∧ bf_r_i2l y J ∧ bf_r_i2b y J ∧ bf_r_i2s y J ∧ bf_r_dup y J ∧ bf_r_dup2 y J ∧ bf_r_if_eq y J ∧ bf_r_icmp_eq y J ∧ bf_r_if_ne y J ∧ bf_r_icmp_ne y J ∧ bf_r_if_lt y J ∧ bf_r_icmp_lt y J ∧ bf_r_if_ge y J ∧ bf_r_icmp_ge y J ∧ bf_r_if_gt y J ∧ bf_r_icmp_gt y J ∧ bf_r_if_le y J ∧ bf_r_icmp_le y J ∧ bf_r_goto y J ∧ bf_r_tabIn y J ∧ bf_r_tabOut y J ∧ bf_r_lookup y J ∧ bf_r_get y J ∧ bf_r_put y J ∧ bf_r_iald y J ∧ bf_r_iast y J ∧ bf_r_aald y J ∧ bf_r_alen y J ∧ bf_r_gsF y J ∧ bf_r_gsG y J ∧ bf_r_ldF y J ∧ bf_r_ldG y J ∧ bf_r_lenG y J ∧ bf_r_name y J
theorem jw_Ru {p : Program} {l : Launch} {e : Env} {R : Room} {s : State} {m : MethodId} {args : Array Value} {below : List Frame} {meth : Method} {c : Code} {E : bf_E} {nL N0 : Nat} {Q : State → Prop} {y : bf_M} (X : bf_X p s m args c E nL y) : bf_Ru y (bf_JW p l e R s m args below meth c E nL N0 Q) := ⟨jw_iconst X, jw_bipush X, jw_sipush X, jw_lconst X, jw_ldcw X, jw_ldc2 X, jw_iload_n X, jw_iload X, jw_istore_n X, jw_istore X, jw_aload_n X, jw_aload X, jw_astore_n X, jw_astore X, jw_lload_n X, jw_lload X, jw_lstore_n X, jw_lstore X, jw_iinc X, jw_iadd X, jw_isub X, jw_imul X, jw_iand X, jw_ior X, jw_ixor X, jw_ishl X, jw_ishr X, jw_iushr X, jw_idiv X, jw_irem X, jw_ladd X, jw_lsub X, jw_lmul X, jw_ldiv X, jw_lrem X, jw_lcmp X, jw_i2l X, jw_i2b X, jw_i2s X, jw_dup X, jw_dup2 X, jw_if_eq X, jw_icmp_eq X, jw_if_ne X, jw_icmp_ne X, jw_if_lt X, jw_icmp_lt X, jw_if_ge X, jw_icmp_ge X, jw_if_gt X, jw_icmp_gt X, jw_if_le X, jw_icmp_le X, jw_goto X, jw_tabIn X, jw_tabOut X, jw_lookup X, jw_get X, jw_put X, jw_iald X, jw_iast X, jw_aald X, jw_alen X, jw_gsF X, jw_gsG X, jw_ldF X, jw_ldG X, jw_lenG X, jw_name X⟩
section bfR
variable {y : bf_M} {J : bf_J}
theorem bf_iconst (r : bf_Ru y J) {pc : Nat} {L : bf_L} {S : List Value} {G : bf_G} {n : Int} {v : Int32} (d : decode y.2.1 pc = .ok (.iconst n, 1)) (hv : Int32.ofInt n = v) (k : J (pc + 1) L (.int v :: S) G) : J pc L S G := r.1 pc L S G n v d hv k
theorem bf_bipush (r : bf_Ru y J) {pc : Nat} {L : bf_L} {S : List Value} {G : bf_G} {n : Int} {v : Int32} (d : decode y.2.1 pc = .ok (.bipush n, 2)) (hv : (Int8.ofInt n).toInt32 = v) (k : J (pc + 2) L (.int v :: S) G) : J pc L S G := r.2.1 pc L S G n v d hv k
theorem bf_sipush (r : bf_Ru y J) {pc : Nat} {L : bf_L} {S : List Value} {G : bf_G} {n : Int} {v : Int32} (d : decode y.2.1 pc = .ok (.sipush n, 3)) (hv : (Int16.ofInt n).toInt32 = v) (k : J (pc + 3) L (.int v :: S) G) : J pc L S G := r.2.2.1 pc L S G n v d hv k
theorem bf_lconst (r : bf_Ru y J) {pc : Nat} {L : bf_L} {S : List Value} {G : bf_G} {n : Fin 2} {v : Int64} (d : decode y.2.1 pc = .ok (.lconst n, 1)) (hv : Int64.ofNat (n : Nat) = v) (k : J (pc + 1) L (.long v :: S) G) : J pc L S G := r.2.2.2.1 pc L S G n v d hv k
theorem bf_ldcw (r : bf_Ru y J) {pc : Nat} {L : bf_L} {S : List Value} {G : bf_G} {i : Nat} {v : Int32} (d : decode y.2.1 pc = .ok (.ldc_w i, 3)) (hw : Cond.constant y.1.cls i v ∈ lw_tbl) (k : J (pc + 3) L (.int v :: S) G) : J pc L S G := r.2.2.2.2.1 pc L S G i v d hw k
theorem bf_ldc2 (r : bf_Ru y J) {pc : Nat} {L : bf_L} {S : List Value} {G : bf_G} {i : Nat} {v : Int64} (d : decode y.2.1 pc = .ok (.ldc2_w i, 3)) (hw : Cond.constantLong y.1.cls i v ∈ lw_tbl) (k : J (pc + 3) L (.long v :: S) G) : J pc L S G := r.2.2.2.2.2.1 pc L S G i v d hw k
theorem bf_iload_n (r : bf_Ru y J) {pc : Nat} {L : bf_L} {S : List Value} {G : bf_G} {i : Fin 4} {x : Int32} (d : decode y.2.1 pc = .ok (.iload_n i, 1)) (h : L[(i : Nat)]? = some (some (.int x))) (k : J (pc + 1) L (.int x :: S) G) : J pc L S G := r.2.2.2.2.2.2.1 pc L S G i x d h k
theorem bf_iload (r : bf_Ru y J) {pc : Nat} {L : bf_L} {S : List Value} {G : bf_G} {i : Nat} {x : Int32} (d : decode y.2.1 pc = .ok (.iload i, 2)) (h : L[i]? = some (some (.int x))) (k : J (pc + 2) L (.int x :: S) G) : J pc L S G := r.2.2.2.2.2.2.2.1 pc L S G i x d h k
theorem bf_istore_n (r : bf_Ru y J) {pc : Nat} {L : bf_L} {S : List Value} {G : bf_G} {i : Fin 4} {x : Int32} {L2 : bf_L} (d : decode y.2.1 pc = .ok (.istore_n i, 1)) (h : bf_s1 L i (.int x) = some L2) (k : J (pc + 1) L2 S G) : J pc L (.int x :: S) G := r.2.2.2.2.2.2.2.2.1 pc L S G i x L2 d h k
theorem bf_istore (r : bf_Ru y J) {pc : Nat} {L : bf_L} {S : List Value} {G : bf_G} {i : Nat} {x : Int32} {L2 : bf_L} (d : decode y.2.1 pc = .ok (.istore i, 2)) (h : bf_s1 L i (.int x) = some L2) (k : J (pc + 2) L2 S G) : J pc L (.int x :: S) G := r.2.2.2.2.2.2.2.2.2.1 pc L S G i x L2 d h k
theorem bf_aload_n (r : bf_Ru y J) {pc : Nat} {L : bf_L} {S : List Value} {G : bf_G} {i : Fin 4} {x : Nat} (d : decode y.2.1 pc = .ok (.aload_n i, 1)) (h : L[(i : Nat)]? = some (some (.ref x))) (k : J (pc + 1) L (.ref x :: S) G) : J pc L S G := r.2.2.2.2.2.2.2.2.2.2.1 pc L S G i x d h k
theorem bf_aload (r : bf_Ru y J) {pc : Nat} {L : bf_L} {S : List Value} {G : bf_G} {i : Nat} {x : Nat} (d : decode y.2.1 pc = .ok (.aload i, 2)) (h : L[i]? = some (some (.ref x))) (k : J (pc + 2) L (.ref x :: S) G) : J pc L S G := r.2.2.2.2.2.2.2.2.2.2.2.1 pc L S G i x d h k
theorem bf_astore_n (r : bf_Ru y J) {pc : Nat} {L : bf_L} {S : List Value} {G : bf_G} {i : Fin 4} {x : Nat} {L2 : bf_L} (d : decode y.2.1 pc = .ok (.astore_n i, 1)) (h : bf_s1 L i (.ref x) = some L2) (k : J (pc + 1) L2 S G) : J pc L (.ref x :: S) G := r.2.2.2.2.2.2.2.2.2.2.2.2.1 pc L S G i x L2 d h k
theorem bf_astore (r : bf_Ru y J) {pc : Nat} {L : bf_L} {S : List Value} {G : bf_G} {i : Nat} {x : Nat} {L2 : bf_L} (d : decode y.2.1 pc = .ok (.astore i, 2)) (h : bf_s1 L i (.ref x) = some L2) (k : J (pc + 2) L2 S G) : J pc L (.ref x :: S) G := r.2.2.2.2.2.2.2.2.2.2.2.2.2.1 pc L S G i x L2 d h k
theorem bf_lload_n (r : bf_Ru y J) {pc : Nat} {L : bf_L} {S : List Value} {G : bf_G} {i : Fin 4} {x : Int64} (d : decode y.2.1 pc = .ok (.lload_n i, 1)) (h : L[(i : Nat)]? = some (some (.long x))) (k : J (pc + 1) L (.long x :: S) G) : J pc L S G := r.2.2.2.2.2.2.2.2.2.2.2.2.2.2.1 pc L S G i x d h k
theorem bf_lload (r : bf_Ru y J) {pc : Nat} {L : bf_L} {S : List Value} {G : bf_G} {i : Nat} {x : Int64} (d : decode y.2.1 pc = .ok (.lload i, 2)) (h : L[i]? = some (some (.long x))) (k : J (pc + 2) L (.long x :: S) G) : J pc L S G := r.2.2.2.2.2.2.2.2.2.2.2.2.2.2.2.1 pc L S G i x d h k
theorem bf_lstore_n (r : bf_Ru y J) {pc : Nat} {L : bf_L} {S : List Value} {G : bf_G} {i : Fin 4} {x : Int64} {L2 : bf_L} (d : decode y.2.1 pc = .ok (.lstore_n i, 1)) (h : bf_s2 L i (.long x) = some L2) (k : J (pc + 1) L2 S G) : J pc L (.long x :: S) G := r.2.2.2.2.2.2.2.2.2.2.2.2.2.2.2.2.1 pc L S G i x L2 d h k
theorem bf_lstore (r : bf_Ru y J) {pc : Nat} {L : bf_L} {S : List Value} {G : bf_G} {i : Nat} {x : Int64} {L2 : bf_L} (d : decode y.2.1 pc = .ok (.lstore i, 2)) (h : bf_s2 L i (.long x) = some L2) (k : J (pc + 2) L2 S G) : J pc L (.long x :: S) G := r.2.2.2.2.2.2.2.2.2.2.2.2.2.2.2.2.2.1 pc L S G i x L2 d h k
theorem bf_iinc (r : bf_Ru y J) {pc : Nat} {L : bf_L} {S : List Value} {G : bf_G} {i : Nat} {n : Int} {x v : Int32} {L2 : bf_L} (d : decode y.2.1 pc = .ok (.iinc i n, 3)) (h1 : L[i]? = some (some (.int x))) (hv : x + Int32.ofInt n = v) (h : bf_s1 L i (.int v) = some L2) (k : J (pc + 3) L2 S G) : J pc L S G := r.2.2.2.2.2.2.2.2.2.2.2.2.2.2.2.2.2.2.1 pc L S G i n x v L2 d h1 hv h k
theorem bf_iadd (r : bf_Ru y J) {pc : Nat} {L : bf_L} {S : List Value} {G : bf_G} {x z : Int32} (d : decode y.2.1 pc = .ok (.iadd, 1)) (k : J (pc + 1) L (.int (x + z) :: S) G) : J pc L (.int z :: .int x :: S) G := r.2.2.2.2.2.2.2.2.2.2.2.2.2.2.2.2.2.2.2.1 pc L S G x z d k
theorem bf_isub (r : bf_Ru y J) {pc : Nat} {L : bf_L} {S : List Value} {G : bf_G} {x z : Int32} (d : decode y.2.1 pc = .ok (.isub, 1)) (k : J (pc + 1) L (.int (x - z) :: S) G) : J pc L (.int z :: .int x :: S) G := r.2.2.2.2.2.2.2.2.2.2.2.2.2.2.2.2.2.2.2.2.1 pc L S G x z d k
theorem bf_imul (r : bf_Ru y J) {pc : Nat} {L : bf_L} {S : List Value} {G : bf_G} {x z : Int32} (d : decode y.2.1 pc = .ok (.imul, 1)) (k : J (pc + 1) L (.int (x * z) :: S) G) : J pc L (.int z :: .int x :: S) G := r.2.2.2.2.2.2.2.2.2.2.2.2.2.2.2.2.2.2.2.2.2.1 pc L S G x z d k
theorem bf_iand (r : bf_Ru y J) {pc : Nat} {L : bf_L} {S : List Value} {G : bf_G} {x z : Int32} (d : decode y.2.1 pc = .ok (.iand, 1)) (k : J (pc + 1) L (.int (x &&& z) :: S) G) : J pc L (.int z :: .int x :: S) G := r.2.2.2.2.2.2.2.2.2.2.2.2.2.2.2.2.2.2.2.2.2.2.1 pc L S G x z d k
theorem bf_ior (r : bf_Ru y J) {pc : Nat} {L : bf_L} {S : List Value} {G : bf_G} {x z : Int32} (d : decode y.2.1 pc = .ok (.ior, 1)) (k : J (pc + 1) L (.int (x ||| z) :: S) G) : J pc L (.int z :: .int x :: S) G := r.2.2.2.2.2.2.2.2.2.2.2.2.2.2.2.2.2.2.2.2.2.2.2.1 pc L S G x z d k
theorem bf_ixor (r : bf_Ru y J) {pc : Nat} {L : bf_L} {S : List Value} {G : bf_G} {x z : Int32} (d : decode y.2.1 pc = .ok (.ixor, 1)) (k : J (pc + 1) L (.int (x ^^^ z) :: S) G) : J pc L (.int z :: .int x :: S) G := r.2.2.2.2.2.2.2.2.2.2.2.2.2.2.2.2.2.2.2.2.2.2.2.2.1 pc L S G x z d k
theorem bf_ishl (r : bf_Ru y J) {pc : Nat} {L : bf_L} {S : List Value} {G : bf_G} {x z : Int32} (d : decode y.2.1 pc = .ok (.ishl, 1)) (k : J (pc + 1) L (.int (x <<< (z &&& 31)) :: S) G) : J pc L (.int z :: .int x :: S) G := r.2.2.2.2.2.2.2.2.2.2.2.2.2.2.2.2.2.2.2.2.2.2.2.2.2.1 pc L S G x z d k
theorem bf_ishr (r : bf_Ru y J) {pc : Nat} {L : bf_L} {S : List Value} {G : bf_G} {x z : Int32} (d : decode y.2.1 pc = .ok (.ishr, 1)) (k : J (pc + 1) L (.int (x >>> (z &&& 31)) :: S) G) : J pc L (.int z :: .int x :: S) G := r.2.2.2.2.2.2.2.2.2.2.2.2.2.2.2.2.2.2.2.2.2.2.2.2.2.2.1 pc L S G x z d k
theorem bf_iushr (r : bf_Ru y J) {pc : Nat} {L : bf_L} {S : List Value} {G : bf_G} {x z v : Int32} (d : decode y.2.1 pc = .ok (.iushr, 1)) (hv : (x.toUInt32 >>> (z.toUInt32 &&& Int32.toUInt32 31)).toInt32 = v) (k : J (pc + 1) L (.int v :: S) G) : J pc L (.int z :: .int x :: S) G := r.2.2.2.2.2.2.2.2.2.2.2.2.2.2.2.2.2.2.2.2.2.2.2.2.2.2.2.1 pc L S G x z v d hv k
theorem bf_idiv (r : bf_Ru y J) {pc : Nat} {L : bf_L} {S : List Value} {G : bf_G} {x z : Int32} (d : decode y.2.1 pc = .ok (.idiv, 1)) (h : ¬ z = 0) (k : J (pc + 1) L (.int (x / z) :: S) G) : J pc L (.int z :: .int x :: S) G := r.2.2.2.2.2.2.2.2.2.2.2.2.2.2.2.2.2.2.2.2.2.2.2.2.2.2.2.2.1 pc L S G x z d h k
theorem bf_irem (r : bf_Ru y J) {pc : Nat} {L : bf_L} {S : List Value} {G : bf_G} {x z : Int32} (d : decode y.2.1 pc = .ok (.irem, 1)) (h : ¬ z = 0) (k : J (pc + 1) L (.int (x - x / z * z) :: S) G) : J pc L (.int z :: .int x :: S) G := r.2.2.2.2.2.2.2.2.2.2.2.2.2.2.2.2.2.2.2.2.2.2.2.2.2.2.2.2.2.1 pc L S G x z d h k
theorem bf_ladd (r : bf_Ru y J) {pc : Nat} {L : bf_L} {S : List Value} {G : bf_G} {x z : Int64} (d : decode y.2.1 pc = .ok (.ladd, 1)) (k : J (pc + 1) L (.long (x + z) :: S) G) : J pc L (.long z :: .long x :: S) G := r.2.2.2.2.2.2.2.2.2.2.2.2.2.2.2.2.2.2.2.2.2.2.2.2.2.2.2.2.2.2.1 pc L S G x z d k
theorem bf_lsub (r : bf_Ru y J) {pc : Nat} {L : bf_L} {S : List Value} {G : bf_G} {x z : Int64} (d : decode y.2.1 pc = .ok (.lsub, 1)) (k : J (pc + 1) L (.long (x - z) :: S) G) : J pc L (.long z :: .long x :: S) G := r.2.2.2.2.2.2.2.2.2.2.2.2.2.2.2.2.2.2.2.2.2.2.2.2.2.2.2.2.2.2.2.1 pc L S G x z d k
theorem bf_lmul (r : bf_Ru y J) {pc : Nat} {L : bf_L} {S : List Value} {G : bf_G} {x z : Int64} (d : decode y.2.1 pc = .ok (.lmul, 1)) (k : J (pc + 1) L (.long (x * z) :: S) G) : J pc L (.long z :: .long x :: S) G := r.2.2.2.2.2.2.2.2.2.2.2.2.2.2.2.2.2.2.2.2.2.2.2.2.2.2.2.2.2.2.2.2.1 pc L S G x z d k
theorem bf_ldiv (r : bf_Ru y J) {pc : Nat} {L : bf_L} {S : List Value} {G : bf_G} {x z : Int64} (d : decode y.2.1 pc = .ok (.ldiv, 1)) (h : ¬ z = 0) (k : J (pc + 1) L (.long (x / z) :: S) G) : J pc L (.long z :: .long x :: S) G := r.2.2.2.2.2.2.2.2.2.2.2.2.2.2.2.2.2.2.2.2.2.2.2.2.2.2.2.2.2.2.2.2.2.1 pc L S G x z d h k
theorem bf_lrem (r : bf_Ru y J) {pc : Nat} {L : bf_L} {S : List Value} {G : bf_G} {x z : Int64} (d : decode y.2.1 pc = .ok (.lrem, 1)) (h : ¬ z = 0) (k : J (pc + 1) L (.long (x - x / z * z) :: S) G) : J pc L (.long z :: .long x :: S) G := r.2.2.2.2.2.2.2.2.2.2.2.2.2.2.2.2.2.2.2.2.2.2.2.2.2.2.2.2.2.2.2.2.2.2.1 pc L S G x z d h k
theorem bf_lcmp (r : bf_Ru y J) {pc : Nat} {L : bf_L} {S : List Value} {G : bf_G} {x z : Int64} (d : decode y.2.1 pc = .ok (.lcmp, 1)) (k : J (pc + 1) L (.int (lg_cmp x z) :: S) G) : J pc L (.long z :: .long x :: S) G := r.2.2.2.2.2.2.2.2.2.2.2.2.2.2.2.2.2.2.2.2.2.2.2.2.2.2.2.2.2.2.2.2.2.2.2.1 pc L S G x z d k
theorem bf_i2l (r : bf_Ru y J) {pc : Nat} {L : bf_L} {S : List Value} {G : bf_G} {x : Int32} (d : decode y.2.1 pc = .ok (.i2l, 1)) (k : J (pc + 1) L (.long x.toInt64 :: S) G) : J pc L (.int x :: S) G := r.2.2.2.2.2.2.2.2.2.2.2.2.2.2.2.2.2.2.2.2.2.2.2.2.2.2.2.2.2.2.2.2.2.2.2.2.1 pc L S G x d k
theorem bf_i2b (r : bf_Ru y J) {pc : Nat} {L : bf_L} {S : List Value} {G : bf_G} {x : Int32} (d : decode y.2.1 pc = .ok (.i2b, 1)) (k : J (pc + 1) L (.int x.toInt8.toInt32 :: S) G) : J pc L (.int x :: S) G := r.2.2.2.2.2.2.2.2.2.2.2.2.2.2.2.2.2.2.2.2.2.2.2.2.2.2.2.2.2.2.2.2.2.2.2.2.2.1 pc L S G x d k
theorem bf_i2s (r : bf_Ru y J) {pc : Nat} {L : bf_L} {S : List Value} {G : bf_G} {x : Int32} (d : decode y.2.1 pc = .ok (.i2s, 1)) (k : J (pc + 1) L (.int x.toInt16.toInt32 :: S) G) : J pc L (.int x :: S) G := r.2.2.2.2.2.2.2.2.2.2.2.2.2.2.2.2.2.2.2.2.2.2.2.2.2.2.2.2.2.2.2.2.2.2.2.2.2.2.1 pc L S G x d k
theorem bf_dup (r : bf_Ru y J) {pc : Nat} {L : bf_L} {S : List Value} {G : bf_G} {v : Value} (d : decode y.2.1 pc = .ok (.dup, 1)) (h : v.category = 1) (k : J (pc + 1) L (v :: v :: S) G) : J pc L (v :: S) G := r.2.2.2.2.2.2.2.2.2.2.2.2.2.2.2.2.2.2.2.2.2.2.2.2.2.2.2.2.2.2.2.2.2.2.2.2.2.2.2.1 pc L S G v d h k
theorem bf_dup2 (r : bf_Ru y J) {pc : Nat} {L : bf_L} {S : List Value} {G : bf_G} {v w : Value} (d : decode y.2.1 pc = .ok (.dup2, 1)) (h : v.category = 1) (h2 : w.category = 1) (k : J (pc + 1) L (v :: w :: v :: w :: S) G) : J pc L (v :: w :: S) G := r.2.2.2.2.2.2.2.2.2.2.2.2.2.2.2.2.2.2.2.2.2.2.2.2.2.2.2.2.2.2.2.2.2.2.2.2.2.2.2.2.1 pc L S G v w d h h2 k
theorem bf_if_eq (r : bf_Ru y J) {pc : Nat} {L : bf_L} {S : List Value} {G : bf_G} {x : Int32} {off : Int} {tgt : Nat} (d : decode y.2.1 pc = .ok (.ifCond .eq off, 3)) (ht : (pc : Int) + off = (tgt : Int)) (kt : (x = 0 → J tgt L S G)) (kf : (¬ x = 0 → J (pc + 3) L S G)) : J pc L (.int x :: S) G := r.2.2.2.2.2.2.2.2.2.2.2.2.2.2.2.2.2.2.2.2.2.2.2.2.2.2.2.2.2.2.2.2.2.2.2.2.2.2.2.2.2.1 pc L S G x off tgt d ht kt kf
theorem bf_icmp_eq (r : bf_Ru y J) {pc : Nat} {L : bf_L} {S : List Value} {G : bf_G} {x z : Int32} {off : Int} {tgt : Nat} (d : decode y.2.1 pc = .ok (.if_icmp .eq off, 3)) (ht : (pc : Int) + off = (tgt : Int)) (kt : (x = z → J tgt L S G)) (kf : (¬ x = z → J (pc + 3) L S G)) : J pc L (.int z :: .int x :: S) G := r.2.2.2.2.2.2.2.2.2.2.2.2.2.2.2.2.2.2.2.2.2.2.2.2.2.2.2.2.2.2.2.2.2.2.2.2.2.2.2.2.2.2.1 pc L S G x z off tgt d ht kt kf
theorem bf_if_ne (r : bf_Ru y J) {pc : Nat} {L : bf_L} {S : List Value} {G : bf_G} {x : Int32} {off : Int} {tgt : Nat} (d : decode y.2.1 pc = .ok (.ifCond .ne off, 3)) (ht : (pc : Int) + off = (tgt : Int)) (kt : (¬ x = 0 → J tgt L S G)) (kf : (x = 0 → J (pc + 3) L S G)) : J pc L (.int x :: S) G := r.2.2.2.2.2.2.2.2.2.2.2.2.2.2.2.2.2.2.2.2.2.2.2.2.2.2.2.2.2.2.2.2.2.2.2.2.2.2.2.2.2.2.2.1 pc L S G x off tgt d ht kt kf
theorem bf_icmp_ne (r : bf_Ru y J) {pc : Nat} {L : bf_L} {S : List Value} {G : bf_G} {x z : Int32} {off : Int} {tgt : Nat} (d : decode y.2.1 pc = .ok (.if_icmp .ne off, 3)) (ht : (pc : Int) + off = (tgt : Int)) (kt : (¬ x = z → J tgt L S G)) (kf : (x = z → J (pc + 3) L S G)) : J pc L (.int z :: .int x :: S) G := r.2.2.2.2.2.2.2.2.2.2.2.2.2.2.2.2.2.2.2.2.2.2.2.2.2.2.2.2.2.2.2.2.2.2.2.2.2.2.2.2.2.2.2.2.1 pc L S G x z off tgt d ht kt kf
theorem bf_if_lt (r : bf_Ru y J) {pc : Nat} {L : bf_L} {S : List Value} {G : bf_G} {x : Int32} {off : Int} {tgt : Nat} (d : decode y.2.1 pc = .ok (.ifCond .lt off, 3)) (ht : (pc : Int) + off = (tgt : Int)) (kt : (x < 0 → J tgt L S G)) (kf : (¬ x < 0 → J (pc + 3) L S G)) : J pc L (.int x :: S) G := r.2.2.2.2.2.2.2.2.2.2.2.2.2.2.2.2.2.2.2.2.2.2.2.2.2.2.2.2.2.2.2.2.2.2.2.2.2.2.2.2.2.2.2.2.2.1 pc L S G x off tgt d ht kt kf
theorem bf_icmp_lt (r : bf_Ru y J) {pc : Nat} {L : bf_L} {S : List Value} {G : bf_G} {x z : Int32} {off : Int} {tgt : Nat} (d : decode y.2.1 pc = .ok (.if_icmp .lt off, 3)) (ht : (pc : Int) + off = (tgt : Int)) (kt : (x < z → J tgt L S G)) (kf : (¬ x < z → J (pc + 3) L S G)) : J pc L (.int z :: .int x :: S) G := r.2.2.2.2.2.2.2.2.2.2.2.2.2.2.2.2.2.2.2.2.2.2.2.2.2.2.2.2.2.2.2.2.2.2.2.2.2.2.2.2.2.2.2.2.2.2.1 pc L S G x z off tgt d ht kt kf
theorem bf_if_ge (r : bf_Ru y J) {pc : Nat} {L : bf_L} {S : List Value} {G : bf_G} {x : Int32} {off : Int} {tgt : Nat} (d : decode y.2.1 pc = .ok (.ifCond .ge off, 3)) (ht : (pc : Int) + off = (tgt : Int)) (kt : (0 ≤ x → J tgt L S G)) (kf : (¬ 0 ≤ x → J (pc + 3) L S G)) : J pc L (.int x :: S) G := r.2.2.2.2.2.2.2.2.2.2.2.2.2.2.2.2.2.2.2.2.2.2.2.2.2.2.2.2.2.2.2.2.2.2.2.2.2.2.2.2.2.2.2.2.2.2.2.1 pc L S G x off tgt d ht kt kf
theorem bf_icmp_ge (r : bf_Ru y J) {pc : Nat} {L : bf_L} {S : List Value} {G : bf_G} {x z : Int32} {off : Int} {tgt : Nat} (d : decode y.2.1 pc = .ok (.if_icmp .ge off, 3)) (ht : (pc : Int) + off = (tgt : Int)) (kt : (z ≤ x → J tgt L S G)) (kf : (¬ z ≤ x → J (pc + 3) L S G)) : J pc L (.int z :: .int x :: S) G := r.2.2.2.2.2.2.2.2.2.2.2.2.2.2.2.2.2.2.2.2.2.2.2.2.2.2.2.2.2.2.2.2.2.2.2.2.2.2.2.2.2.2.2.2.2.2.2.2.1 pc L S G x z off tgt d ht kt kf
theorem bf_if_gt (r : bf_Ru y J) {pc : Nat} {L : bf_L} {S : List Value} {G : bf_G} {x : Int32} {off : Int} {tgt : Nat} (d : decode y.2.1 pc = .ok (.ifCond .gt off, 3)) (ht : (pc : Int) + off = (tgt : Int)) (kt : (0 < x → J tgt L S G)) (kf : (¬ 0 < x → J (pc + 3) L S G)) : J pc L (.int x :: S) G := r.2.2.2.2.2.2.2.2.2.2.2.2.2.2.2.2.2.2.2.2.2.2.2.2.2.2.2.2.2.2.2.2.2.2.2.2.2.2.2.2.2.2.2.2.2.2.2.2.2.1 pc L S G x off tgt d ht kt kf
theorem bf_icmp_gt (r : bf_Ru y J) {pc : Nat} {L : bf_L} {S : List Value} {G : bf_G} {x z : Int32} {off : Int} {tgt : Nat} (d : decode y.2.1 pc = .ok (.if_icmp .gt off, 3)) (ht : (pc : Int) + off = (tgt : Int)) (kt : (z < x → J tgt L S G)) (kf : (¬ z < x → J (pc + 3) L S G)) : J pc L (.int z :: .int x :: S) G := r.2.2.2.2.2.2.2.2.2.2.2.2.2.2.2.2.2.2.2.2.2.2.2.2.2.2.2.2.2.2.2.2.2.2.2.2.2.2.2.2.2.2.2.2.2.2.2.2.2.2.1 pc L S G x z off tgt d ht kt kf
theorem bf_if_le (r : bf_Ru y J) {pc : Nat} {L : bf_L} {S : List Value} {G : bf_G} {x : Int32} {off : Int} {tgt : Nat} (d : decode y.2.1 pc = .ok (.ifCond .le off, 3)) (ht : (pc : Int) + off = (tgt : Int)) (kt : (x ≤ 0 → J tgt L S G)) (kf : (¬ x ≤ 0 → J (pc + 3) L S G)) : J pc L (.int x :: S) G := r.2.2.2.2.2.2.2.2.2.2.2.2.2.2.2.2.2.2.2.2.2.2.2.2.2.2.2.2.2.2.2.2.2.2.2.2.2.2.2.2.2.2.2.2.2.2.2.2.2.2.2.1 pc L S G x off tgt d ht kt kf
theorem bf_icmp_le (r : bf_Ru y J) {pc : Nat} {L : bf_L} {S : List Value} {G : bf_G} {x z : Int32} {off : Int} {tgt : Nat} (d : decode y.2.1 pc = .ok (.if_icmp .le off, 3)) (ht : (pc : Int) + off = (tgt : Int)) (kt : (x ≤ z → J tgt L S G)) (kf : (¬ x ≤ z → J (pc + 3) L S G)) : J pc L (.int z :: .int x :: S) G := r.2.2.2.2.2.2.2.2.2.2.2.2.2.2.2.2.2.2.2.2.2.2.2.2.2.2.2.2.2.2.2.2.2.2.2.2.2.2.2.2.2.2.2.2.2.2.2.2.2.2.2.2.1 pc L S G x z off tgt d ht kt kf
theorem bf_goto (r : bf_Ru y J) {pc : Nat} {L : bf_L} {S : List Value} {G : bf_G} {off : Int} {tgt : Nat} (d : decode y.2.1 pc = .ok (.goto off, 3)) (ht : (pc : Int) + off = (tgt : Int)) (k : J tgt L S G) : J pc L S G := r.2.2.2.2.2.2.2.2.2.2.2.2.2.2.2.2.2.2.2.2.2.2.2.2.2.2.2.2.2.2.2.2.2.2.2.2.2.2.2.2.2.2.2.2.2.2.2.2.2.2.2.2.2.1 pc L S G off tgt d ht k
theorem bf_tabIn (r : bf_Ru y J) {pc : Nat} {L : bf_L} {S : List Value} {G : bf_G} {df lo hi : Int} {offs : Array Int} {len : Nat} {x : Int32} {off : Int} {tgt : Nat} (d : decode y.2.1 pc = .ok (.tableswitch df lo hi offs, len)) (h1 : ¬ x.toInt < lo) (h2 : ¬ hi < x.toInt) (ho : offs[(x.toInt - lo).toNat]? = some off) (ht : (pc : Int) + off = (tgt : Int)) (k : J tgt L S G) : J pc L (.int x :: S) G := r.2.2.2.2.2.2.2.2.2.2.2.2.2.2.2.2.2.2.2.2.2.2.2.2.2.2.2.2.2.2.2.2.2.2.2.2.2.2.2.2.2.2.2.2.2.2.2.2.2.2.2.2.2.2.1 pc L S G df lo hi offs len x off tgt d h1 h2 ho ht k
theorem bf_tabOut (r : bf_Ru y J) {pc : Nat} {L : bf_L} {S : List Value} {G : bf_G} {df lo hi : Int} {offs : Array Int} {len : Nat} {x : Int32} {tgt : Nat} (d : decode y.2.1 pc = .ok (.tableswitch df lo hi offs, len)) (h1 : x.toInt < lo ∨ hi < x.toInt) (ht : (pc : Int) + df = (tgt : Int)) (k : J tgt L S G) : J pc L (.int x :: S) G := r.2.2.2.2.2.2.2.2.2.2.2.2.2.2.2.2.2.2.2.2.2.2.2.2.2.2.2.2.2.2.2.2.2.2.2.2.2.2.2.2.2.2.2.2.2.2.2.2.2.2.2.2.2.2.2.1 pc L S G df lo hi offs len x tgt d h1 ht k
theorem bf_lookup (r : bf_Ru y J) {pc : Nat} {L : bf_L} {S : List Value} {G : bf_G} {df : Int} {ps : Array (Int × Int)} {len : Nat} {x : Int32} {off : Int} {tgt : Nat} (d : decode y.2.1 pc = .ok (.lookupswitch df ps, len)) (hp : (ps.toList.zip (ps.toList.drop 1)).all (fun (a, next) => a.1 < next.1) = true) (ho : Op.lookupswitch.offset ps.toList df x.toInt = off) (ht : (pc : Int) + off = (tgt : Int)) (k : J tgt L S G) : J pc L (.int x :: S) G := r.2.2.2.2.2.2.2.2.2.2.2.2.2.2.2.2.2.2.2.2.2.2.2.2.2.2.2.2.2.2.2.2.2.2.2.2.2.2.2.2.2.2.2.2.2.2.2.2.2.2.2.2.2.2.2.2.1 pc L S G df ps len x off tgt d hp ho ht k
theorem bf_get (r : bf_Ru y J) {pc : Nat} {L : bf_L} {S : List Value} {G : bf_G} {i ci j a : Nat} (d : decode y.2.1 pc = .ok (.getfield i, 3)) (hf : bf_fl y.1.cls i ci j) (hk : (bf_kd a).1 = ci) (ha : a < G.1) (k : J (pc + 3) L (G.2 a j :: S) G) : J pc L (.ref a :: S) G := r.2.2.2.2.2.2.2.2.2.2.2.2.2.2.2.2.2.2.2.2.2.2.2.2.2.2.2.2.2.2.2.2.2.2.2.2.2.2.2.2.2.2.2.2.2.2.2.2.2.2.2.2.2.2.2.2.2.1 pc L S G i ci j a d hf hk ha k
theorem bf_put (r : bf_Ru y J) {pc : Nat} {L : bf_L} {S : List Value} {G : bf_G} {i ci j a : Nat} {v : Int32} (d : decode y.2.1 pc = .ok (.putfield i, 3)) (hf : bf_fp y.1.cls i ci j) (hk : (bf_kd a).1 = ci) (ha : a < G.1) (k : J (pc + 3) L S (G.1, bf_up G.2 a j (.int v))) : J pc L (.int v :: .ref a :: S) G := r.2.2.2.2.2.2.2.2.2.2.2.2.2.2.2.2.2.2.2.2.2.2.2.2.2.2.2.2.2.2.2.2.2.2.2.2.2.2.2.2.2.2.2.2.2.2.2.2.2.2.2.2.2.2.2.2.2.2.1 pc L S G i ci j a v d hf hk ha k
theorem bf_iald (r : bf_Ru y J) {pc : Nat} {L : bf_L} {S : List Value} {G : bf_G} {a n : Nat} {i : Int32} (d : decode y.2.1 pc = .ok (.iaload, 1)) (hk : bf_kd a = (9, n)) (ha : a < G.1) (hi : vp_in i n) (k : J (pc + 1) L (G.2 a i.toNatClampNeg :: S) G) : J pc L (.int i :: .ref a :: S) G := r.2.2.2.2.2.2.2.2.2.2.2.2.2.2.2.2.2.2.2.2.2.2.2.2.2.2.2.2.2.2.2.2.2.2.2.2.2.2.2.2.2.2.2.2.2.2.2.2.2.2.2.2.2.2.2.2.2.2.2.1 pc L S G a n i d hk ha hi k
theorem bf_iast (r : bf_Ru y J) {pc : Nat} {L : bf_L} {S : List Value} {G : bf_G} {a n : Nat} {i v : Int32} (d : decode y.2.1 pc = .ok (.iastore, 1)) (hk : bf_kd a = (9, n)) (ha : a < G.1) (hi : vp_in i n) (k : J (pc + 1) L S (G.1, bf_up G.2 a i.toNatClampNeg (.int v))) : J pc L (.int v :: .int i :: .ref a :: S) G := r.2.2.2.2.2.2.2.2.2.2.2.2.2.2.2.2.2.2.2.2.2.2.2.2.2.2.2.2.2.2.2.2.2.2.2.2.2.2.2.2.2.2.2.2.2.2.2.2.2.2.2.2.2.2.2.2.2.2.2.2.1 pc L S G a n i v d hk ha hi k
theorem bf_aald (r : bf_Ru y J) {pc : Nat} {L : bf_L} {S : List Value} {G : bf_G} {a ci n b : Nat} {i : Int32} (d : decode y.2.1 pc = .ok (.aaload, 1)) (hc : ci = 10 ∨ ci = 11) (hk : bf_kd a = (ci, n)) (ha : a < G.1) (hi : vp_in i n) (hb : G.2 a i.toNatClampNeg = .ref b) (k : J (pc + 1) L (.ref b :: S) G) : J pc L (.int i :: .ref a :: S) G := r.2.2.2.2.2.2.2.2.2.2.2.2.2.2.2.2.2.2.2.2.2.2.2.2.2.2.2.2.2.2.2.2.2.2.2.2.2.2.2.2.2.2.2.2.2.2.2.2.2.2.2.2.2.2.2.2.2.2.2.2.2.1 pc L S G a ci n b i d hc hk ha hi hb k
theorem bf_alen (r : bf_Ru y J) {pc : Nat} {L : bf_L} {S : List Value} {G : bf_G} {a n : Nat} {v : Int32} (d : decode y.2.1 pc = .ok (.arraylength, 1)) (hk : bf_kd a = (9, n)) (ha : a < G.1) (hv : Int32.ofNat n = v) (k : J (pc + 1) L (.int v :: S) G) : J pc L (.ref a :: S) G := r.2.2.2.2.2.2.2.2.2.2.2.2.2.2.2.2.2.2.2.2.2.2.2.2.2.2.2.2.2.2.2.2.2.2.2.2.2.2.2.2.2.2.2.2.2.2.2.2.2.2.2.2.2.2.2.2.2.2.2.2.2.2.1 pc L S G a n v d hk ha hv k
theorem bf_gsF (r : bf_Ru y J) {pc : Nat} {L : bf_L} {S : List Value} {G : bf_G} {i : Nat} (d : decode y.2.1 pc = .ok (.getstatic i, 3)) (hw : Cond.fieldLink y.1.cls i RX0 "FIGURES" "[I" ∈ lw_tbl) (k : J (pc + 3) L (.ref 100 :: S) G) : J pc L S G := r.2.2.2.2.2.2.2.2.2.2.2.2.2.2.2.2.2.2.2.2.2.2.2.2.2.2.2.2.2.2.2.2.2.2.2.2.2.2.2.2.2.2.2.2.2.2.2.2.2.2.2.2.2.2.2.2.2.2.2.2.2.2.2.1 pc L S G i d hw k
theorem bf_gsG (r : bf_Ru y J) {pc : Nat} {L : bf_L} {S : List Value} {G : bf_G} {i : Nat} (d : decode y.2.1 pc = .ok (.getstatic i, 3)) (hw : Cond.fieldLink y.1.cls i RX7 "GREATEST" "[I" ∈ lw_tbl) (k : J (pc + 3) L (.ref 101 :: S) G) : J pc L S G := r.2.2.2.2.2.2.2.2.2.2.2.2.2.2.2.2.2.2.2.2.2.2.2.2.2.2.2.2.2.2.2.2.2.2.2.2.2.2.2.2.2.2.2.2.2.2.2.2.2.2.2.2.2.2.2.2.2.2.2.2.2.2.2.2.1 pc L S G i d hw k
theorem bf_ldF (r : bf_Ru y J) {pc : Nat} {L : bf_L} {S : List Value} {G : bf_G} {i : Int32} (d : decode y.2.1 pc = .ok (.iaload, 1)) (hi : vp_in i 10) (k : J (pc + 1) L (.int (bf_fig i.toNatClampNeg) :: S) G) : J pc L (.int i :: .ref 100 :: S) G := r.2.2.2.2.2.2.2.2.2.2.2.2.2.2.2.2.2.2.2.2.2.2.2.2.2.2.2.2.2.2.2.2.2.2.2.2.2.2.2.2.2.2.2.2.2.2.2.2.2.2.2.2.2.2.2.2.2.2.2.2.2.2.2.2.2.1 pc L S G i d hi k
theorem bf_ldG (r : bf_Ru y J) {pc : Nat} {L : bf_L} {S : List Value} {G : bf_G} {i : Int32} (d : decode y.2.1 pc = .ok (.iaload, 1)) (hi : vp_in i 3) (k : J (pc + 1) L (.int (bf_gre i.toNatClampNeg) :: S) G) : J pc L (.int i :: .ref 101 :: S) G := r.2.2.2.2.2.2.2.2.2.2.2.2.2.2.2.2.2.2.2.2.2.2.2.2.2.2.2.2.2.2.2.2.2.2.2.2.2.2.2.2.2.2.2.2.2.2.2.2.2.2.2.2.2.2.2.2.2.2.2.2.2.2.2.2.2.2.1 pc L S G i d hi k
theorem bf_lenG (r : bf_Ru y J) {pc : Nat} {L : bf_L} {S : List Value} {G : bf_G} (d : decode y.2.1 pc = .ok (.arraylength, 1)) (k : J (pc + 1) L (.int 3 :: S) G) : J pc L (.ref 101 :: S) G := r.2.2.2.2.2.2.2.2.2.2.2.2.2.2.2.2.2.2.2.2.2.2.2.2.2.2.2.2.2.2.2.2.2.2.2.2.2.2.2.2.2.2.2.2.2.2.2.2.2.2.2.2.2.2.2.2.2.2.2.2.2.2.2.2.2.2.2.1 pc L S G d k
theorem bf_name (r : bf_Ru y J) {pc : Nat} {L : bf_L} {S : List Value} {G : bf_G} {x : Int32} (k : (∀ z : Int32, z = x → J pc L (.int z :: S) G)) : J pc L (.int x :: S) G := r.2.2.2.2.2.2.2.2.2.2.2.2.2.2.2.2.2.2.2.2.2.2.2.2.2.2.2.2.2.2.2.2.2.2.2.2.2.2.2.2.2.2.2.2.2.2.2.2.2.2.2.2.2.2.2.2.2.2.2.2.2.2.2.2.2.2.2.2 pc L S G x k
end bfR
end
section
theorem bf_mp {y : MethodName} {n : Nat} (i : Nat) (h : lw_privs[i]? = some (y, n)) : Cond.selects y.cls y y ∈ lw_tbl := List.mem_append_left _ (List.mem_map.mpr ⟨_, List.mem_of_getElem? h, rfl⟩)
theorem bf_ini_J6 : Cond.initialized RJ6 ∈ lw_tbl := bf_mt 12 (by decide +kernel)
theorem bf_ini_J9 : Cond.initialized RJ9 ∈ lw_tbl := bf_mt 11 (by decide +kernel)
theorem bf_ini_X0 : Cond.initialized RX0 ∈ lw_tbl := bf_mt 3 (by decide +kernel)
theorem bf_ini_X1 : Cond.initialized RX1 ∈ lw_tbl := bf_mt 7 (by decide +kernel)
theorem bf_ini_X2 : Cond.initialized RX2 ∈ lw_tbl := bf_mt 2 (by decide +kernel)
theorem bf_ini_X3 : Cond.initialized RX3 ∈ lw_tbl := bf_mt 4 (by decide +kernel)
theorem bf_ini_X4 : Cond.initialized RX4 ∈ lw_tbl := bf_mt 5 (by decide +kernel)
theorem bf_ini_X5 : Cond.initialized RX5 ∈ lw_tbl := bf_mt 8 (by decide +kernel)
theorem bf_ini_X6 : Cond.initialized RX6 ∈ lw_tbl := bf_mt 6 (by decide +kernel)
theorem bf_ini_X7 : Cond.initialized RX7 ∈ lw_tbl := bf_mt 10 (by decide +kernel)
theorem bf_ini_X8 : Cond.initialized RX8 ∈ lw_tbl := bf_mt 1 (by decide +kernel)
theorem bf_ini_X9 : Cond.initialized RX9 ∈ lw_tbl := bf_mt 9 (by decide +kernel)
def mX0_init : bf_M := (yX0_init, cX0_init, 3, none)
theorem mo_X0_init : bf_mo mX0_init 0 := ⟨bf_mt 36 (by decide +kernel), bf_ini_X0, by decide +kernel, ⟨by decide +kernel, by decide +kernel, by decide +kernel⟩, by decide⟩
theorem mv_X0_init : bf_mi mX0_init 0 := ⟨mo_X0_init, bf_mt 35 (by decide +kernel), rfl, rfl⟩
def mX0_look : bf_M := (yX0_look, cX0_look, 3, some .int)
theorem mo_X0_look : bf_mo mX0_look 2 := ⟨bf_mt 283 (by decide +kernel), bf_ini_X0, by decide +kernel, ⟨by decide +kernel, by decide +kernel, by decide +kernel⟩, by decide⟩
theorem mv_X0_look : bf_mv mX0_look 0 2 := ⟨mo_X0_look, (RX0, TX0, 1), rfl, bf_mt 282 (by decide +kernel), bf_mp (y := yX0_look) (n := 1) 9 (by decide +kernel)⟩
def mX0_leftRight : bf_M := (yX0_leftRight, cX0_leftRight, 1, some .int)
theorem mo_X0_leftRight : bf_mo mX0_leftRight 1 := ⟨bf_mt 42 (by decide +kernel), bf_ini_X0, by decide +kernel, ⟨by decide +kernel, by decide +kernel, by decide +kernel⟩, by decide⟩
theorem mv_X0_leftRight : bf_ms mX0_leftRight 1 := ⟨mo_X0_leftRight, bf_mt 41 (by decide +kernel)⟩
def mX0_topBottom : bf_M := (yX0_topBottom, cX0_topBottom, 1, some .int)
theorem mo_X0_topBottom : bf_mo mX0_topBottom 1 := ⟨bf_mt 48 (by decide +kernel), bf_ini_X0, by decide +kernel, ⟨by decide +kernel, by decide +kernel, by decide +kernel⟩, by decide⟩
theorem mv_X0_topBottom : bf_ms mX0_topBottom 1 := ⟨mo_X0_topBottom, bf_mt 47 (by decide +kernel)⟩
def mX0_exchanged : bf_M := (yX0_exchanged, cX0_exchanged, 4, some .int)
theorem mo_X0_exchanged : bf_mo mX0_exchanged 3 := ⟨bf_mt 45 (by decide +kernel), bf_ini_X0, by decide +kernel, ⟨by decide +kernel, by decide +kernel, by decide +kernel⟩, by decide⟩
theorem mv_X0_exchanged : bf_ms mX0_exchanged 3 := ⟨mo_X0_exchanged, bf_mt 44 (by decide +kernel)⟩
def mX1_init : bf_M := (yX1_init, cX1_init, 1, none)
theorem mo_X1_init : bf_mo mX1_init 0 := ⟨bf_mt 150 (by decide +kernel), bf_ini_X1, by decide +kernel, ⟨by decide +kernel, by decide +kernel, by decide +kernel⟩, by decide⟩
theorem mv_X1_init : bf_mi mX1_init 0 := ⟨mo_X1_init, bf_mt 149 (by decide +kernel), rfl, rfl⟩
def mX1_fill : bf_M := (yX1_fill, cX1_fill, 7, some .boolean)
theorem mo_X1_fill : bf_mo mX1_fill 4 := ⟨bf_mt 509 (by decide +kernel), bf_ini_X1, by decide +kernel, ⟨by decide +kernel, by decide +kernel, by decide +kernel⟩, by decide⟩
theorem mv_X1_fill : bf_mv mX1_fill 1 4 := ⟨mo_X1_fill, (RX1, TX1, 6), rfl, bf_mt 508 (by decide +kernel), bf_mp (y := yX1_fill) (n := 6) 38 (by decide +kernel)⟩
def mX1_search : bf_M := (yX1_search, cX1_search, 1, none)
theorem mo_X1_search : bf_mo mX1_search 0 := ⟨bf_mt 517 (by decide +kernel), bf_ini_X1, by decide +kernel, ⟨by decide +kernel, by decide +kernel, by decide +kernel⟩, by decide⟩
theorem mv_X1_search : bf_mv mX1_search 1 0 := ⟨mo_X1_search, (RX1, TX1, 6), rfl, bf_mt 516 (by decide +kernel), bf_mp (y := yX1_search) (n := 6) 39 (by decide +kernel)⟩
def mX1_extend : bf_M := (yX1_extend, cX1_extend, 6, none)
theorem mo_X1_extend : bf_mo mX1_extend 3 := ⟨bf_mt 521 (by decide +kernel), bf_ini_X1, by decide +kernel, ⟨by decide +kernel, by decide +kernel, by decide +kernel⟩, by decide⟩
theorem mv_X1_extend : bf_mv mX1_extend 1 3 := ⟨mo_X1_extend, (RX1, TX1, 6), rfl, bf_mt 520 (by decide +kernel), bf_mp (y := yX1_extend) (n := 6) 40 (by decide +kernel)⟩
def mX1_fewest : bf_M := (yX1_fewest, cX1_fewest, 1, some .int)
theorem mo_X1_fewest : bf_mo mX1_fewest 0 := ⟨bf_mt 528 (by decide +kernel), bf_ini_X1, by decide +kernel, ⟨by decide +kernel, by decide +kernel, by decide +kernel⟩, by decide⟩
theorem mv_X1_fewest : bf_mv mX1_fewest 1 0 := ⟨mo_X1_fewest, (RX1, TX1, 6), rfl, bf_mt 527 (by decide +kernel), bf_mp (y := yX1_fewest) (n := 6) 41 (by decide +kernel)⟩
def mX1_placeOf : bf_M := (yX1_placeOf, cX1_placeOf, 2, some .int)
theorem mo_X1_placeOf : bf_mo mX1_placeOf 1 := ⟨bf_mt 532 (by decide +kernel), bf_ini_X1, by decide +kernel, ⟨by decide +kernel, by decide +kernel, by decide +kernel⟩, by decide⟩
theorem mv_X1_placeOf : bf_mv mX1_placeOf 1 1 := ⟨mo_X1_placeOf, (RX1, TX1, 6), rfl, bf_mt 531 (by decide +kernel), bf_mp (y := yX1_placeOf) (n := 6) 42 (by decide +kernel)⟩
def mX2_init : bf_M := (yX2_init, cX2_init, 3, none)
theorem mo_X2_init : bf_mo mX2_init 0 := ⟨bf_mt 28 (by decide +kernel), bf_ini_X2, by decide +kernel, ⟨by decide +kernel, by decide +kernel, by decide +kernel⟩, by decide⟩
theorem mv_X2_init : bf_mi mX2_init 0 := ⟨mo_X2_init, bf_mt 27 (by decide +kernel), rfl, rfl⟩
def mX2_renew : bf_M := (yX2_renew, cX2_renew, 5, none)
theorem mo_X2_renew : bf_mo mX2_renew 2 := ⟨bf_mt 261 (by decide +kernel), bf_ini_X2, by decide +kernel, ⟨by decide +kernel, by decide +kernel, by decide +kernel⟩, by decide⟩
theorem mv_X2_renew : bf_mv mX2_renew 2 2 := ⟨mo_X2_renew, (RX2, TX2, 5), rfl, bf_mt 260 (by decide +kernel), bf_mp (y := yX2_renew) (n := 5) 5 (by decide +kernel)⟩
def mX2_isNone : bf_M := (yX2_isNone, cX2_isNone, 1, some .boolean)
theorem mo_X2_isNone : bf_mo mX2_isNone 0 := ⟨bf_mt 346 (by decide +kernel), bf_ini_X2, by decide +kernel, ⟨by decide +kernel, by decide +kernel, by decide +kernel⟩, by decide⟩
theorem mv_X2_isNone : bf_mv mX2_isNone 2 0 := ⟨mo_X2_isNone, (RX2, TX2, 5), rfl, bf_mt 345 (by decide +kernel), bf_mp (y := yX2_isNone) (n := 5) 17 (by decide +kernel)⟩
def mX2_isNumber : bf_M := (yX2_isNumber, cX2_isNumber, 2, some .boolean)
theorem mo_X2_isNumber : bf_mo mX2_isNumber 1 := ⟨bf_mt 350 (by decide +kernel), bf_ini_X2, by decide +kernel, ⟨by decide +kernel, by decide +kernel, by decide +kernel⟩, by decide⟩
theorem mv_X2_isNumber : bf_mv mX2_isNumber 2 1 := ⟨mo_X2_isNumber, (RX2, TX2, 5), rfl, bf_mt 349 (by decide +kernel), bf_mp (y := yX2_isNumber) (n := 5) 18 (by decide +kernel)⟩
def mX2_digitOf : bf_M := (yX2_digitOf, cX2_digitOf, 5, some .int)
theorem mo_X2_digitOf : bf_mo mX2_digitOf 2 := ⟨bf_mt 304 (by decide +kernel), bf_ini_X2, by decide +kernel, ⟨by decide +kernel, by decide +kernel, by decide +kernel⟩, by decide⟩
theorem mv_X2_digitOf : bf_mv mX2_digitOf 2 2 := ⟨mo_X2_digitOf, (RX2, TX2, 5), rfl, bf_mt 303 (by decide +kernel), bf_mp (y := yX2_digitOf) (n := 5) 13 (by decide +kernel)⟩
def mX2_deadBars : bf_M := (yX2_deadBars, cX2_deadBars, 3, some .int)
theorem mo_X2_deadBars : bf_mo mX2_deadBars 0 := ⟨bf_mt 660 (by decide +kernel), bf_ini_X2, by decide +kernel, ⟨by decide +kernel, by decide +kernel, by decide +kernel⟩, by decide⟩
theorem mv_X2_deadBars : bf_mv mX2_deadBars 2 0 := ⟨mo_X2_deadBars, (RX2, TX2, 5), rfl, bf_mt 659 (by decide +kernel), bf_mp (y := yX2_deadBars) (n := 5) 55 (by decide +kernel)⟩
def mX2_litBars : bf_M := (yX2_litBars, cX2_litBars, 4, some .int)
theorem mo_X2_litBars : bf_mo mX2_litBars 1 := ⟨bf_mt 354 (by decide +kernel), bf_ini_X2, by decide +kernel, ⟨by decide +kernel, by decide +kernel, by decide +kernel⟩, by decide⟩
theorem mv_X2_litBars : bf_mv mX2_litBars 2 1 := ⟨mo_X2_litBars, (RX2, TX2, 5), rfl, bf_mt 353 (by decide +kernel), bf_mp (y := yX2_litBars) (n := 5) 19 (by decide +kernel)⟩
def mX2_flipsBetween : bf_M := (yX2_flipsBetween, cX2_flipsBetween, 5, some .int)
theorem mo_X2_flipsBetween : bf_mo mX2_flipsBetween 2 := ⟨bf_mt 394 (by decide +kernel), bf_ini_X2, by decide +kernel, ⟨by decide +kernel, by decide +kernel, by decide +kernel⟩, by decide⟩
theorem mv_X2_flipsBetween : bf_mv mX2_flipsBetween 2 2 := ⟨mo_X2_flipsBetween, (RX2, TX2, 5), rfl, bf_mt 393 (by decide +kernel), bf_mp (y := yX2_flipsBetween) (n := 5) 23 (by decide +kernel)⟩
def mX2_nextDigit : bf_M := (yX2_nextDigit, cX2_nextDigit, 1, some .int)
theorem mo_X2_nextDigit : bf_mo mX2_nextDigit 1 := ⟨bf_mt 405 (by decide +kernel), bf_ini_X2, by decide +kernel, ⟨by decide +kernel, by decide +kernel, by decide +kernel⟩, by decide⟩
theorem mv_X2_nextDigit : bf_ms mX2_nextDigit 1 := ⟨mo_X2_nextDigit, bf_mt 404 (by decide +kernel)⟩
def mX2_flipsOfStep : bf_M := (yX2_flipsOfStep, cX2_flipsOfStep, 6, some .int)
theorem mo_X2_flipsOfStep : bf_mo mX2_flipsOfStep 1 := ⟨bf_mt 402 (by decide +kernel), bf_ini_X2, by decide +kernel, ⟨by decide +kernel, by decide +kernel, by decide +kernel⟩, by decide⟩
theorem mv_X2_flipsOfStep : bf_mv mX2_flipsOfStep 2 1 := ⟨mo_X2_flipsOfStep, (RX2, TX2, 5), rfl, bf_mt 401 (by decide +kernel), bf_mp (y := yX2_flipsOfStep) (n := 5) 24 (by decide +kernel)⟩
def mX2_makeStep : bf_M := (yX2_makeStep, cX2_makeStep, 5, some .int)
theorem mo_X2_makeStep : bf_mo mX2_makeStep 0 := ⟨bf_mt 440 (by decide +kernel), bf_ini_X2, by decide +kernel, ⟨by decide +kernel, by decide +kernel, by decide +kernel⟩, by decide⟩
theorem mv_X2_makeStep : bf_mv mX2_makeStep 2 0 := ⟨mo_X2_makeStep, (RX2, TX2, 5), rfl, bf_mt 439 (by decide +kernel), bf_mp (y := yX2_makeStep) (n := 5) 28 (by decide +kernel)⟩
def mX2_numberAfter : bf_M := (yX2_numberAfter, cX2_numberAfter, 2, some .int)
theorem mo_X2_numberAfter : bf_mo mX2_numberAfter 1 := ⟨bf_mt 449 (by decide +kernel), bf_ini_X2, by decide +kernel, ⟨by decide +kernel, by decide +kernel, by decide +kernel⟩, by decide⟩
theorem mv_X2_numberAfter : bf_mv mX2_numberAfter 2 1 := ⟨mo_X2_numberAfter, (RX2, TX2, 5), rfl, bf_mt 448 (by decide +kernel), bf_mp (y := yX2_numberAfter) (n := 5) 30 (by decide +kernel)⟩
def mX2_stepsToDeath : bf_M := (yX2_stepsToDeath, cX2_stepsToDeath, 10, some .int)
theorem mo_X2_stepsToDeath : bf_mo mX2_stepsToDeath 3 := ⟨bf_mt 457 (by decide +kernel), bf_ini_X2, by decide +kernel, ⟨by decide +kernel, by decide +kernel, by decide +kernel⟩, by decide⟩
theorem mv_X2_stepsToDeath : bf_mv mX2_stepsToDeath 2 3 := ⟨mo_X2_stepsToDeath, (RX2, TX2, 5), rfl, bf_mt 456 (by decide +kernel), bf_mp (y := yX2_stepsToDeath) (n := 5) 31 (by decide +kernel)⟩
def mX2_countAlike : bf_M := (yX2_countAlike, cX2_countAlike, 4, some .int)
theorem mo_X2_countAlike : bf_mo mX2_countAlike 1 := ⟨bf_mt 370 (by decide +kernel), bf_ini_X2, by decide +kernel, ⟨by decide +kernel, by decide +kernel, by decide +kernel⟩, by decide⟩
theorem mv_X2_countAlike : bf_mv mX2_countAlike 2 1 := ⟨mo_X2_countAlike, (RX2, TX2, 5), rfl, bf_mt 369 (by decide +kernel), bf_mp (y := yX2_countAlike) (n := 5) 20 (by decide +kernel)⟩
def mX2_digitsAlike : bf_M := (yX2_digitsAlike, cX2_digitsAlike, 3, some .int)
theorem mo_X2_digitsAlike : bf_mo mX2_digitsAlike 2 := ⟨bf_mt 374 (by decide +kernel), bf_ini_X2, by decide +kernel, ⟨by decide +kernel, by decide +kernel, by decide +kernel⟩, by decide⟩
theorem mv_X2_digitsAlike : bf_mv mX2_digitsAlike 2 2 := ⟨mo_X2_digitsAlike, (RX2, TX2, 5), rfl, bf_mt 373 (by decide +kernel), bf_mp (y := yX2_digitsAlike) (n := 5) 21 (by decide +kernel)⟩
def mX2_numberAlike : bf_M := (yX2_numberAlike, cX2_numberAlike, 9, some .int)
theorem mo_X2_numberAlike : bf_mo mX2_numberAlike 2 := ⟨bf_mt 383 (by decide +kernel), bf_ini_X2, by decide +kernel, ⟨by decide +kernel, by decide +kernel, by decide +kernel⟩, by decide⟩
theorem mv_X2_numberAlike : bf_mv mX2_numberAlike 2 2 := ⟨mo_X2_numberAlike, (RX2, TX2, 5), rfl, bf_mt 382 (by decide +kernel), bf_mp (y := yX2_numberAlike) (n := 5) 22 (by decide +kernel)⟩
def mX2_memberOf : bf_M := (yX2_memberOf, cX2_memberOf, 4, some .int)
theorem mo_X2_memberOf : bf_mo mX2_memberOf 2 := ⟨bf_mt 386 (by decide +kernel), bf_ini_X2, by decide +kernel, ⟨by decide +kernel, by decide +kernel, by decide +kernel⟩, by decide⟩
theorem mv_X2_memberOf : bf_ms mX2_memberOf 2 := ⟨mo_X2_memberOf, bf_mt 385 (by decide +kernel)⟩
def mX2_nearestTo : bf_M := (yX2_nearestTo, cX2_nearestTo, 3, some .int)
theorem mo_X2_nearestTo : bf_mo mX2_nearestTo 1 := ⟨bf_mt 417 (by decide +kernel), bf_ini_X2, by decide +kernel, ⟨by decide +kernel, by decide +kernel, by decide +kernel⟩, by decide⟩
theorem mv_X2_nearestTo : bf_mv mX2_nearestTo 2 1 := ⟨mo_X2_nearestTo, (RX2, TX2, 5), rfl, bf_mt 416 (by decide +kernel), bf_mp (y := yX2_nearestTo) (n := 5) 25 (by decide +kernel)⟩
def mX2_nearestUnlike : bf_M := (yX2_nearestUnlike, cX2_nearestUnlike, 10, some .int)
theorem mo_X2_nearestUnlike : bf_mo mX2_nearestUnlike 1 := ⟨bf_mt 422 (by decide +kernel), bf_ini_X2, by decide +kernel, ⟨by decide +kernel, by decide +kernel, by decide +kernel⟩, by decide⟩
theorem mv_X2_nearestUnlike : bf_mv mX2_nearestUnlike 2 1 := ⟨mo_X2_nearestUnlike, (RX2, TX2, 5), rfl, bf_mt 421 (by decide +kernel), bf_mp (y := yX2_nearestUnlike) (n := 5) 26 (by decide +kernel)⟩
def mX2_unlikePictures : bf_M := (yX2_unlikePictures, cX2_unlikePictures, 3, some .int)
theorem mo_X2_unlikePictures : bf_mo mX2_unlikePictures 0 := ⟨bf_mt 431 (by decide +kernel), bf_ini_X2, by decide +kernel, ⟨by decide +kernel, by decide +kernel, by decide +kernel⟩, by decide⟩
theorem mv_X2_unlikePictures : bf_mv mX2_unlikePictures 2 0 := ⟨mo_X2_unlikePictures, (RX2, TX2, 5), rfl, bf_mt 430 (by decide +kernel), bf_mp (y := yX2_unlikePictures) (n := 5) 27 (by decide +kernel)⟩
def mX2_lonePictures : bf_M := (yX2_lonePictures, cX2_lonePictures, 3, some .int)
theorem mo_X2_lonePictures : bf_mo mX2_lonePictures 0 := ⟨bf_mt 569 (by decide +kernel), bf_ini_X2, by decide +kernel, ⟨by decide +kernel, by decide +kernel, by decide +kernel⟩, by decide⟩
theorem mv_X2_lonePictures : bf_mv mX2_lonePictures 2 0 := ⟨mo_X2_lonePictures, (RX2, TX2, 5), rfl, bf_mt 568 (by decide +kernel), bf_mp (y := yX2_lonePictures) (n := 5) 45 (by decide +kernel)⟩
def mX3_init : bf_M := (yX3_init, cX3_init, 2, none)
theorem mo_X3_init : bf_mo mX3_init 1 := ⟨bf_mt 57 (by decide +kernel), bf_ini_X3, by decide +kernel, ⟨by decide +kernel, by decide +kernel, by decide +kernel⟩, by decide⟩
theorem mv_X3_init : bf_mi mX3_init 1 := ⟨mo_X3_init, bf_mt 56 (by decide +kernel), rfl, rfl⟩
def mX3_renew : bf_M := (yX3_renew, cX3_renew, 5, none)
theorem mo_X3_renew : bf_mo mX3_renew 3 := ⟨bf_mt 271 (by decide +kernel), bf_ini_X3, by decide +kernel, ⟨by decide +kernel, by decide +kernel, by decide +kernel⟩, by decide⟩
theorem mv_X3_renew : bf_mv mX3_renew 3 3 := ⟨mo_X3_renew, (RX3, TX3, 6), rfl, bf_mt 270 (by decide +kernel), bf_mp (y := yX3_renew) (n := 6) 6 (by decide +kernel)⟩
def mX3_light : bf_M := (yX3_light, cX3_light, 2, none)
theorem mo_X3_light : bf_mo mX3_light 0 := ⟨bf_mt 275 (by decide +kernel), bf_ini_X3, by decide +kernel, ⟨by decide +kernel, by decide +kernel, by decide +kernel⟩, by decide⟩
theorem mv_X3_light : bf_mv mX3_light 3 0 := ⟨mo_X3_light, (RX3, TX3, 6), rfl, bf_mt 274 (by decide +kernel), bf_mp (y := yX3_light) (n := 6) 7 (by decide +kernel)⟩
def mX3_lit : bf_M := (yX3_lit, cX3_lit, 2, some .int)
theorem mo_X3_lit : bf_mo mX3_lit 1 := ⟨bf_mt 308 (by decide +kernel), bf_ini_X3, by decide +kernel, ⟨by decide +kernel, by decide +kernel, by decide +kernel⟩, by decide⟩
theorem mv_X3_lit : bf_mv mX3_lit 3 1 := ⟨mo_X3_lit, (RX3, TX3, 6), rfl, bf_mt 307 (by decide +kernel), bf_mp (y := yX3_lit) (n := 6) 14 (by decide +kernel)⟩
def mX3_litIf : bf_M := (yX3_litIf, cX3_litIf, 4, some .int)
theorem mo_X3_litIf : bf_mo mX3_litIf 3 := ⟨bf_mt 279 (by decide +kernel), bf_ini_X3, by decide +kernel, ⟨by decide +kernel, by decide +kernel, by decide +kernel⟩, by decide⟩
theorem mv_X3_litIf : bf_mv mX3_litIf 3 3 := ⟨mo_X3_litIf, (RX3, TX3, 6), rfl, bf_mt 278 (by decide +kernel), bf_mp (y := yX3_litIf) (n := 6) 8 (by decide +kernel)⟩
def mX3_digitsOf : bf_M := (yX3_digitsOf, cX3_digitsOf, 4, some .int)
theorem mo_X3_digitsOf : bf_mo mX3_digitsOf 1 := ⟨bf_mt 300 (by decide +kernel), bf_ini_X3, by decide +kernel, ⟨by decide +kernel, by decide +kernel, by decide +kernel⟩, by decide⟩
theorem mv_X3_digitsOf : bf_mv mX3_digitsOf 3 1 := ⟨mo_X3_digitsOf, (RX3, TX3, 6), rfl, bf_mt 299 (by decide +kernel), bf_mp (y := yX3_digitsOf) (n := 6) 12 (by decide +kernel)⟩
def mX3_unlikeSets : bf_M := (yX3_unlikeSets, cX3_unlikeSets, 4, some .int)
theorem mo_X3_unlikeSets : bf_mo mX3_unlikeSets 0 := ⟨bf_mt 296 (by decide +kernel), bf_ini_X3, by decide +kernel, ⟨by decide +kernel, by decide +kernel, by decide +kernel⟩, by decide⟩
theorem mv_X3_unlikeSets : bf_mv mX3_unlikeSets 3 0 := ⟨mo_X3_unlikeSets, (RX3, TX3, 6), rfl, bf_mt 295 (by decide +kernel), bf_mp (y := yX3_unlikeSets) (n := 6) 11 (by decide +kernel)⟩
def mX3_loneDigits : bf_M := (yX3_loneDigits, cX3_loneDigits, 3, some .int)
theorem mo_X3_loneDigits : bf_mo mX3_loneDigits 0 := ⟨bf_mt 573 (by decide +kernel), bf_ini_X3, by decide +kernel, ⟨by decide +kernel, by decide +kernel, by decide +kernel⟩, by decide⟩
theorem mv_X3_loneDigits : bf_mv mX3_loneDigits 3 0 := ⟨mo_X3_loneDigits, (RX3, TX3, 6), rfl, bf_mt 572 (by decide +kernel), bf_mp (y := yX3_loneDigits) (n := 6) 46 (by decide +kernel)⟩
def mX3_exchangeDead : bf_M := (yX3_exchangeDead, cX3_exchangeDead, 5, some .int)
theorem mo_X3_exchangeDead : bf_mo mX3_exchangeDead 1 := ⟨bf_mt 321 (by decide +kernel), bf_ini_X3, by decide +kernel, ⟨by decide +kernel, by decide +kernel, by decide +kernel⟩, by decide⟩
theorem mv_X3_exchangeDead : bf_mv mX3_exchangeDead 3 1 := ⟨mo_X3_exchangeDead, (RX3, TX3, 6), rfl, bf_mt 320 (by decide +kernel), bf_mp (y := yX3_exchangeDead) (n := 6) 15 (by decide +kernel)⟩
def mX3_exchangeStuck : bf_M := (yX3_exchangeStuck, cX3_exchangeStuck, 3, some .int)
theorem mo_X3_exchangeStuck : bf_mo mX3_exchangeStuck 1 := ⟨bf_mt 329 (by decide +kernel), bf_ini_X3, by decide +kernel, ⟨by decide +kernel, by decide +kernel, by decide +kernel⟩, by decide⟩
theorem mv_X3_exchangeStuck : bf_mv mX3_exchangeStuck 3 1 := ⟨mo_X3_exchangeStuck, (RX3, TX3, 6), rfl, bf_mt 328 (by decide +kernel), bf_mp (y := yX3_exchangeStuck) (n := 6) 16 (by decide +kernel)⟩
def mX3_wearBetween : bf_M := (yX3_wearBetween, cX3_wearBetween, 7, some .int)
theorem mo_X3_wearBetween : bf_mo mX3_wearBetween 3 := ⟨bf_mt 444 (by decide +kernel), bf_ini_X3, by decide +kernel, ⟨by decide +kernel, by decide +kernel, by decide +kernel⟩, by decide⟩
theorem mv_X3_wearBetween : bf_mv mX3_wearBetween 3 3 := ⟨mo_X3_wearBetween, (RX3, TX3, 6), rfl, bf_mt 443 (by decide +kernel), bf_mp (y := yX3_wearBetween) (n := 6) 29 (by decide +kernel)⟩
def mX3_isClearIf : bf_M := (yX3_isClearIf, cX3_isClearIf, 6, some .boolean)
theorem mo_X3_isClearIf : bf_mo mX3_isClearIf 1 := ⟨bf_mt 498 (by decide +kernel), bf_ini_X3, by decide +kernel, ⟨by decide +kernel, by decide +kernel, by decide +kernel⟩, by decide⟩
theorem mv_X3_isClearIf : bf_mv mX3_isClearIf 3 1 := ⟨mo_X3_isClearIf, (RX3, TX3, 6), rfl, bf_mt 497 (by decide +kernel), bf_mp (y := yX3_isClearIf) (n := 6) 37 (by decide +kernel)⟩
def mX3_fewestToMend : bf_M := (yX3_fewestToMend, cX3_fewestToMend, 5, some .int)
theorem mo_X3_fewestToMend : bf_mo mX3_fewestToMend 0 := ⟨bf_mt 493 (by decide +kernel), bf_ini_X3, by decide +kernel, ⟨by decide +kernel, by decide +kernel, by decide +kernel⟩, by decide⟩
theorem mv_X3_fewestToMend : bf_mv mX3_fewestToMend 3 0 := ⟨mo_X3_fewestToMend, (RX3, TX3, 6), rfl, bf_mt 492 (by decide +kernel), bf_mp (y := yX3_fewestToMend) (n := 6) 36 (by decide +kernel)⟩
def mX4_init : bf_M := (yX4_init, cX4_init, 1, none)
theorem mo_X4_init : bf_mo mX4_init 0 := ⟨bf_mt 117 (by decide +kernel), bf_ini_X4, by decide +kernel, ⟨by decide +kernel, by decide +kernel, by decide +kernel⟩, by decide⟩
theorem mv_X4_init : bf_mi mX4_init 0 := ⟨mo_X4_init, bf_mt 116 (by decide +kernel), rfl, rfl⟩
def mX4_add : bf_M := (yX4_add, cX4_add, 4, some .int)
theorem mo_X4_add : bf_mo mX4_add 3 := ⟨bf_mt 541 (by decide +kernel), bf_ini_X4, by decide +kernel, ⟨by decide +kernel, by decide +kernel, by decide +kernel⟩, by decide⟩
theorem mv_X4_add : bf_mv mX4_add 4 3 := ⟨mo_X4_add, (RX4, TX4, 4), rfl, bf_mt 540 (by decide +kernel), bf_mp (y := yX4_add) (n := 4) 43 (by decide +kernel)⟩
def mX4_allAreSo : bf_M := (yX4_allAreSo, cX4_allAreSo, 8, some .boolean)
theorem mo_X4_allAreSo : bf_mo mX4_allAreSo 4 := ⟨bf_mt 553 (by decide +kernel), bf_ini_X4, by decide +kernel, ⟨by decide +kernel, by decide +kernel, by decide +kernel⟩, by decide⟩
theorem mv_X4_allAreSo : bf_mv mX4_allAreSo 4 4 := ⟨mo_X4_allAreSo, (RX4, TX4, 4), rfl, bf_mt 552 (by decide +kernel), bf_mp (y := yX4_allAreSo) (n := 4) 44 (by decide +kernel)⟩
def mX5_init : bf_M := (yX5_init, cX5_init, 1, none)
theorem mo_X5_init : bf_mo mX5_init 0 := ⟨bf_mt 174 (by decide +kernel), bf_ini_X5, by decide +kernel, ⟨by decide +kernel, by decide +kernel, by decide +kernel⟩, by decide⟩
theorem mv_X5_init : bf_mi mX5_init 0 := ⟨mo_X5_init, bf_mt 173 (by decide +kernel), rfl, rfl⟩
def mX5_isNothing : bf_M := (yX5_isNothing, cX5_isNothing, 1, some .boolean)
theorem mo_X5_isNothing : bf_mo mX5_isNothing 0 := ⟨bf_mt 223 (by decide +kernel), bf_ini_X5, by decide +kernel, ⟨by decide +kernel, by decide +kernel, by decide +kernel⟩, by decide⟩
theorem mv_X5_isNothing : bf_mv mX5_isNothing 5 0 := ⟨mo_X5_isNothing, (RX5, TX5, 3), rfl, bf_mt 222 (by decide +kernel), bf_mp (y := yX5_isNothing) (n := 3) 1 (by decide +kernel)⟩
def mX5_renew : bf_M := (yX5_renew, cX5_renew, 4, none)
theorem mo_X5_renew : bf_mo mX5_renew 2 := ⟨bf_mt 584 (by decide +kernel), bf_ini_X5, by decide +kernel, ⟨by decide +kernel, by decide +kernel, by decide +kernel⟩, by decide⟩
theorem mv_X5_renew : bf_mv mX5_renew 5 2 := ⟨mo_X5_renew, (RX5, TX5, 3), rfl, bf_mt 583 (by decide +kernel), bf_mp (y := yX5_renew) (n := 3) 47 (by decide +kernel)⟩
def mX5_dropRow : bf_M := (yX5_dropRow, cX5_dropRow, 2, some .boolean)
theorem mo_X5_dropRow : bf_mo mX5_dropRow 0 := ⟨bf_mt 592 (by decide +kernel), bf_ini_X5, by decide +kernel, ⟨by decide +kernel, by decide +kernel, by decide +kernel⟩, by decide⟩
theorem mv_X5_dropRow : bf_mv mX5_dropRow 5 0 := ⟨mo_X5_dropRow, (RX5, TX5, 3), rfl, bf_mt 591 (by decide +kernel), bf_mp (y := yX5_dropRow) (n := 3) 48 (by decide +kernel)⟩
def mX5_hasCells : bf_M := (yX5_hasCells, cX5_hasCells, 3, some .boolean)
theorem mo_X5_hasCells : bf_mo mX5_hasCells 2 := ⟨bf_mt 227 (by decide +kernel), bf_ini_X5, by decide +kernel, ⟨by decide +kernel, by decide +kernel, by decide +kernel⟩, by decide⟩
theorem mv_X5_hasCells : bf_mv mX5_hasCells 5 2 := ⟨mo_X5_hasCells, (RX5, TX5, 3), rfl, bf_mt 226 (by decide +kernel), bf_mp (y := yX5_hasCells) (n := 3) 2 (by decide +kernel)⟩
def mX5_faultOfCells : bf_M := (yX5_faultOfCells, cX5_faultOfCells, 4, some .int)
theorem mo_X5_faultOfCells : bf_mo mX5_faultOfCells 3 := ⟨bf_mt 219 (by decide +kernel), bf_ini_X5, by decide +kernel, ⟨by decide +kernel, by decide +kernel, by decide +kernel⟩, by decide⟩
theorem mv_X5_faultOfCells : bf_mv mX5_faultOfCells 5 3 := ⟨mo_X5_faultOfCells, (RX5, TX5, 3), rfl, bf_mt 218 (by decide +kernel), bf_mp (y := yX5_faultOfCells) (n := 3) 0 (by decide +kernel)⟩
def mX5_read : bf_M := (yX5_read, cX5_read, 2, some .int)
theorem mo_X5_read : bf_mo mX5_read 1 := ⟨bf_mt 241 (by decide +kernel), bf_ini_X5, by decide +kernel, ⟨by decide +kernel, by decide +kernel, by decide +kernel⟩, by decide⟩
theorem mv_X5_read : bf_mv mX5_read 5 1 := ⟨mo_X5_read, (RX5, TX5, 3), rfl, bf_mt 240 (by decide +kernel), bf_mp (y := yX5_read) (n := 3) 4 (by decide +kernel)⟩
def mX5_write : bf_M := (yX5_write, cX5_write, 3, none)
theorem mo_X5_write : bf_mo mX5_write 2 := ⟨bf_mt 602 (by decide +kernel), bf_ini_X5, by decide +kernel, ⟨by decide +kernel, by decide +kernel, by decide +kernel⟩, by decide⟩
theorem mv_X5_write : bf_mv mX5_write 5 2 := ⟨mo_X5_write, (RX5, TX5, 3), rfl, bf_mt 601 (by decide +kernel), bf_mp (y := yX5_write) (n := 3) 49 (by decide +kernel)⟩
def mX5_takeCells : bf_M := (yX5_takeCells, cX5_takeCells, 5, none)
theorem mo_X5_takeCells : bf_mo mX5_takeCells 4 := ⟨bf_mt 615 (by decide +kernel), bf_ini_X5, by decide +kernel, ⟨by decide +kernel, by decide +kernel, by decide +kernel⟩, by decide⟩
theorem mv_X5_takeCells : bf_mv mX5_takeCells 5 4 := ⟨mo_X5_takeCells, (RX5, TX5, 3), rfl, bf_mt 614 (by decide +kernel), bf_mp (y := yX5_takeCells) (n := 3) 50 (by decide +kernel)⟩
def mX6_init : bf_M := (yX6_init, cX6_init, 1, none)
theorem mo_X6_init : bf_mo mX6_init 0 := ⟨bf_mt 137 (by decide +kernel), bf_ini_X6, by decide +kernel, ⟨by decide +kernel, by decide +kernel, by decide +kernel⟩, by decide⟩
theorem mv_X6_init : bf_mi mX6_init 0 := ⟨mo_X6_init, bf_mt 136 (by decide +kernel), rfl, rfl⟩
def mX6_fill : bf_M := (yX6_fill, cX6_fill, 8, some .boolean)
theorem mo_X6_fill : bf_mo mX6_fill 4 := ⟨bf_mt 469 (by decide +kernel), bf_ini_X6, by decide +kernel, ⟨by decide +kernel, by decide +kernel, by decide +kernel⟩, by decide⟩
theorem mv_X6_fill : bf_mv mX6_fill 6 4 := ⟨mo_X6_fill, (RX6, TX6, 2), rfl, bf_mt 468 (by decide +kernel), bf_mp (y := yX6_fill) (n := 2) 32 (by decide +kernel)⟩
def mX6_begins : bf_M := (yX6_begins, cX6_begins, 8, some .int)
theorem mo_X6_begins : bf_mo mX6_begins 3 := ⟨bf_mt 476 (by decide +kernel), bf_ini_X6, by decide +kernel, ⟨by decide +kernel, by decide +kernel, by decide +kernel⟩, by decide⟩
theorem mv_X6_begins : bf_mv mX6_begins 6 3 := ⟨mo_X6_begins, (RX6, TX6, 2), rfl, bf_mt 475 (by decide +kernel), bf_mp (y := yX6_begins) (n := 2) 33 (by decide +kernel)⟩
def mX6_isBegin : bf_M := (yX6_isBegin, cX6_isBegin, 6, some .boolean)
theorem mo_X6_isBegin : bf_mo mX6_isBegin 3 := ⟨bf_mt 480 (by decide +kernel), bf_ini_X6, by decide +kernel, ⟨by decide +kernel, by decide +kernel, by decide +kernel⟩, by decide⟩
theorem mv_X6_isBegin : bf_mv mX6_isBegin 6 3 := ⟨mo_X6_isBegin, (RX6, TX6, 2), rfl, bf_mt 479 (by decide +kernel), bf_mp (y := yX6_isBegin) (n := 2) 34 (by decide +kernel)⟩
def mX6_isRow : bf_M := (yX6_isRow, cX6_isRow, 7, some .boolean)
theorem mo_X6_isRow : bf_mo mX6_isRow 3 := ⟨bf_mt 484 (by decide +kernel), bf_ini_X6, by decide +kernel, ⟨by decide +kernel, by decide +kernel, by decide +kernel⟩, by decide⟩
theorem mv_X6_isRow : bf_mv mX6_isRow 6 3 := ⟨mo_X6_isRow, (RX6, TX6, 2), rfl, bf_mt 483 (by decide +kernel), bf_mp (y := yX6_isRow) (n := 2) 35 (by decide +kernel)⟩
def mX7_firstFault : bf_M := (yX7_firstFault, cX7_firstFault, 4, some .int)
theorem mo_X7_firstFault : bf_mo mX7_firstFault 3 := ⟨bf_mt 234 (by decide +kernel), bf_ini_X7, by decide +kernel, ⟨by decide +kernel, by decide +kernel, by decide +kernel⟩, by decide⟩
theorem mv_X7_firstFault : bf_ms mX7_firstFault 3 := ⟨mo_X7_firstFault, bf_mt 233 (by decide +kernel)⟩
def mX7_goesOn : bf_M := (yX7_goesOn, cX7_goesOn, 6, some .boolean)
theorem mo_X7_goesOn : bf_mo mX7_goesOn 3 := ⟨bf_mt 237 (by decide +kernel), bf_ini_X7, by decide +kernel, ⟨by decide +kernel, by decide +kernel, by decide +kernel⟩, by decide⟩
theorem mv_X7_goesOn : bf_ms mX7_goesOn 3 := ⟨mo_X7_goesOn, bf_mt 236 (by decide +kernel)⟩
def mX7_isDigit : bf_M := (yX7_isDigit, cX7_isDigit, 1, some .boolean)
theorem mo_X7_isDigit : bf_mo mX7_isDigit 1 := ⟨bf_mt 245 (by decide +kernel), bf_ini_X7, by decide +kernel, ⟨by decide +kernel, by decide +kernel, by decide +kernel⟩, by decide⟩
theorem mv_X7_isDigit : bf_ms mX7_isDigit 1 := ⟨mo_X7_isDigit, bf_mt 244 (by decide +kernel)⟩
def mX7_number : bf_M := (yX7_number, cX7_number, 5, some .int)
theorem mo_X7_number : bf_mo mX7_number 3 := ⟨bf_mt 248 (by decide +kernel), bf_ini_X7, by decide +kernel, ⟨by decide +kernel, by decide +kernel, by decide +kernel⟩, by decide⟩
theorem mv_X7_number : bf_ms mX7_number 3 := ⟨mo_X7_number, bf_mt 247 (by decide +kernel)⟩
def mX7_kindOf : bf_M := (yX7_kindOf, cX7_kindOf, 1, some .int)
theorem mo_X7_kindOf : bf_mo mX7_kindOf 1 := ⟨bf_mt 251 (by decide +kernel), bf_ini_X7, by decide +kernel, ⟨by decide +kernel, by decide +kernel, by decide +kernel⟩, by decide⟩
theorem mv_X7_kindOf : bf_ms mX7_kindOf 1 := ⟨mo_X7_kindOf, bf_mt 250 (by decide +kernel)⟩
def mX7_fill : bf_M := (yX7_fill, cX7_fill, 6, none)
theorem mo_X7_fill : bf_mo mX7_fill 4 := ⟨bf_mt 257 (by decide +kernel), bf_ini_X7, by decide +kernel, ⟨by decide +kernel, by decide +kernel, by decide +kernel⟩, by decide⟩
theorem mv_X7_fill : bf_ms mX7_fill 4 := ⟨mo_X7_fill, bf_mt 256 (by decide +kernel)⟩
def mX8_init : bf_M := (yX8_init, cX8_init, 2, none)
theorem mo_X8_init : bf_mo mX8_init 0 := ⟨bf_mt 18 (by decide +kernel), bf_ini_X8, by decide +kernel, ⟨by decide +kernel, by decide +kernel, by decide +kernel⟩, by decide⟩
theorem mv_X8_init : bf_mi mX8_init 0 := ⟨mo_X8_init, bf_mt 17 (by decide +kernel), rfl, rfl⟩
def mX8_panel : bf_M := (yX8_panel, cX8_panel, 8, some .int)
theorem mo_X8_panel : bf_mo mX8_panel 4 := ⟨bf_mt 212 (by decide +kernel), bf_ini_X8, by decide +kernel, ⟨by decide +kernel, by decide +kernel, by decide +kernel⟩, by decide⟩
theorem mv_X8_panel : bf_mv mX8_panel 7 4 := ⟨mo_X8_panel, (RX8, TX8, 7), rfl, bf_mt 210 (by decide +kernel), bf_mt 211 (by decide +kernel)⟩
def mX8_ofPlace : bf_M := (yX8_ofPlace, cX8_ofPlace, 4, some .int)
theorem mo_X8_ofPlace : bf_mo mX8_ofPlace 2 := ⟨bf_mt 288 (by decide +kernel), bf_ini_X8, by decide +kernel, ⟨by decide +kernel, by decide +kernel, by decide +kernel⟩, by decide⟩
theorem mv_X8_ofPlace : bf_mv mX8_ofPlace 7 2 := ⟨mo_X8_ofPlace, (RX8, TX8, 7), rfl, bf_mt 286 (by decide +kernel), bf_mt 287 (by decide +kernel)⟩
def mX8_wear : bf_M := (yX8_wear, cX8_wear, 3, some .int)
theorem mo_X8_wear : bf_mo mX8_wear 2 := ⟨bf_mt 313 (by decide +kernel), bf_ini_X8, by decide +kernel, ⟨by decide +kernel, by decide +kernel, by decide +kernel⟩, by decide⟩
theorem mv_X8_wear : bf_mv mX8_wear 7 2 := ⟨mo_X8_wear, (RX8, TX8, 7), rfl, bf_mt 311 (by decide +kernel), bf_mt 312 (by decide +kernel)⟩
def mX8_kill : bf_M := (yX8_kill, cX8_kill, 3, some .int)
theorem mo_X8_kill : bf_mo mX8_kill 2 := ⟨bf_mt 317 (by decide +kernel), bf_ini_X8, by decide +kernel, ⟨by decide +kernel, by decide +kernel, by decide +kernel⟩, by decide⟩
theorem mv_X8_kill : bf_mv mX8_kill 7 2 := ⟨mo_X8_kill, (RX8, TX8, 7), rfl, bf_mt 315 (by decide +kernel), bf_mt 316 (by decide +kernel)⟩
def mX8_jam : bf_M := (yX8_jam, cX8_jam, 3, some .int)
theorem mo_X8_jam : bf_mo mX8_jam 2 := ⟨bf_mt 325 (by decide +kernel), bf_ini_X8, by decide +kernel, ⟨by decide +kernel, by decide +kernel, by decide +kernel⟩, by decide⟩
theorem mv_X8_jam : bf_mv mX8_jam 7 2 := ⟨mo_X8_jam, (RX8, TX8, 7), rfl, bf_mt 323 (by decide +kernel), bf_mt 324 (by decide +kernel)⟩
def mX8_burns : bf_M := (yX8_burns, cX8_burns, 3, some .int)
theorem mo_X8_burns : bf_mo mX8_burns 2 := ⟨bf_mt 333 (by decide +kernel), bf_ini_X8, by decide +kernel, ⟨by decide +kernel, by decide +kernel, by decide +kernel⟩, by decide⟩
theorem mv_X8_burns : bf_mv mX8_burns 7 2 := ⟨mo_X8_burns, (RX8, TX8, 7), rfl, bf_mt 331 (by decide +kernel), bf_mt 332 (by decide +kernel)⟩
def mX8_digits : bf_M := (yX8_digits, cX8_digits, 3, some .int)
theorem mo_X8_digits : bf_mo mX8_digits 2 := ⟨bf_mt 337 (by decide +kernel), bf_ini_X8, by decide +kernel, ⟨by decide +kernel, by decide +kernel, by decide +kernel⟩, by decide⟩
theorem mv_X8_digits : bf_mv mX8_digits 7 2 := ⟨mo_X8_digits, (RX8, TX8, 7), rfl, bf_mt 335 (by decide +kernel), bf_mt 336 (by decide +kernel)⟩
def mX8_bars : bf_M := (yX8_bars, cX8_bars, 2, some .int)
theorem mo_X8_bars : bf_mo mX8_bars 1 := ⟨bf_mt 342 (by decide +kernel), bf_ini_X8, by decide +kernel, ⟨by decide +kernel, by decide +kernel, by decide +kernel⟩, by decide⟩
theorem mv_X8_bars : bf_mv mX8_bars 7 1 := ⟨mo_X8_bars, (RX8, TX8, 7), rfl, bf_mt 340 (by decide +kernel), bf_mt 341 (by decide +kernel)⟩
def mX8_alike : bf_M := (yX8_alike, cX8_alike, 2, some .int)
theorem mo_X8_alike : bf_mo mX8_alike 1 := ⟨bf_mt 366 (by decide +kernel), bf_ini_X8, by decide +kernel, ⟨by decide +kernel, by decide +kernel, by decide +kernel⟩, by decide⟩
theorem mv_X8_alike : bf_mv mX8_alike 7 1 := ⟨mo_X8_alike, (RX8, TX8, 7), rfl, bf_mt 364 (by decide +kernel), bf_mt 365 (by decide +kernel)⟩
def mX8_which : bf_M := (yX8_which, cX8_which, 3, some .int)
theorem mo_X8_which : bf_mo mX8_which 2 := ⟨bf_mt 379 (by decide +kernel), bf_ini_X8, by decide +kernel, ⟨by decide +kernel, by decide +kernel, by decide +kernel⟩, by decide⟩
theorem mv_X8_which : bf_mv mX8_which 7 2 := ⟨mo_X8_which, (RX8, TX8, 7), rfl, bf_mt 377 (by decide +kernel), bf_mt 378 (by decide +kernel)⟩
def mX8_flips : bf_M := (yX8_flips, cX8_flips, 3, some .int)
theorem mo_X8_flips : bf_mo mX8_flips 2 := ⟨bf_mt 390 (by decide +kernel), bf_ini_X8, by decide +kernel, ⟨by decide +kernel, by decide +kernel, by decide +kernel⟩, by decide⟩
theorem mv_X8_flips : bf_mv mX8_flips 7 2 := ⟨mo_X8_flips, (RX8, TX8, 7), rfl, bf_mt 388 (by decide +kernel), bf_mt 389 (by decide +kernel)⟩
def mX8_counting : bf_M := (yX8_counting, cX8_counting, 9, some .int)
theorem mo_X8_counting : bf_mo mX8_counting 3 := ⟨bf_mt 398 (by decide +kernel), bf_ini_X8, by decide +kernel, ⟨by decide +kernel, by decide +kernel, by decide +kernel⟩, by decide⟩
theorem mv_X8_counting : bf_mv mX8_counting 7 3 := ⟨mo_X8_counting, (RX8, TX8, 7), rfl, bf_mt 396 (by decide +kernel), bf_mt 397 (by decide +kernel)⟩
def mX8_near : bf_M := (yX8_near, cX8_near, 4, some .int)
theorem mo_X8_near : bf_mo mX8_near 2 := ⟨bf_mt 413 (by decide +kernel), bf_ini_X8, by decide +kernel, ⟨by decide +kernel, by decide +kernel, by decide +kernel⟩, by decide⟩
theorem mv_X8_near : bf_mv mX8_near 7 2 := ⟨mo_X8_near, (RX8, TX8, 7), rfl, bf_mt 411 (by decide +kernel), bf_mt 412 (by decide +kernel)⟩
def mX8_pictures : bf_M := (yX8_pictures, cX8_pictures, 1, some .int)
theorem mo_X8_pictures : bf_mo mX8_pictures 0 := ⟨bf_mt 427 (by decide +kernel), bf_ini_X8, by decide +kernel, ⟨by decide +kernel, by decide +kernel, by decide +kernel⟩, by decide⟩
theorem mv_X8_pictures : bf_mv mX8_pictures 7 0 := ⟨mo_X8_pictures, (RX8, TX8, 7), rfl, bf_mt 425 (by decide +kernel), bf_mt 426 (by decide +kernel)⟩
def mX8_go : bf_M := (yX8_go, cX8_go, 4, some .int)
theorem mo_X8_go : bf_mo mX8_go 1 := ⟨bf_mt 436 (by decide +kernel), bf_ini_X8, by decide +kernel, ⟨by decide +kernel, by decide +kernel, by decide +kernel⟩, by decide⟩
theorem mv_X8_go : bf_mv mX8_go 7 1 := ⟨mo_X8_go, (RX8, TX8, 7), rfl, bf_mt 434 (by decide +kernel), bf_mt 435 (by decide +kernel)⟩
def mX8_dies : bf_M := (yX8_dies, cX8_dies, 3, some .int)
theorem mo_X8_dies : bf_mo mX8_dies 2 := ⟨bf_mt 453 (by decide +kernel), bf_ini_X8, by decide +kernel, ⟨by decide +kernel, by decide +kernel, by decide +kernel⟩, by decide⟩
theorem mv_X8_dies : bf_mv mX8_dies 7 2 := ⟨mo_X8_dies, (RX8, TX8, 7), rfl, bf_mt 451 (by decide +kernel), bf_mt 452 (by decide +kernel)⟩
def mX8_first : bf_M := (yX8_first, cX8_first, 9, some .int)
theorem mo_X8_first : bf_mo mX8_first 1 := ⟨bf_mt 461 (by decide +kernel), bf_ini_X8, by decide +kernel, ⟨by decide +kernel, by decide +kernel, by decide +kernel⟩, by decide⟩
theorem mv_X8_first : bf_mv mX8_first 7 1 := ⟨mo_X8_first, (RX8, TX8, 7), rfl, bf_mt 459 (by decide +kernel), bf_mt 460 (by decide +kernel)⟩
def mX8_seen : bf_M := (yX8_seen, cX8_seen, 9, some .int)
theorem mo_X8_seen : bf_mo mX8_seen 6 := ⟨bf_mt 465 (by decide +kernel), bf_ini_X8, by decide +kernel, ⟨by decide +kernel, by decide +kernel, by decide +kernel⟩, by decide⟩
theorem mv_X8_seen : bf_mv mX8_seen 7 6 := ⟨mo_X8_seen, (RX8, TX8, 7), rfl, bf_mt 463 (by decide +kernel), bf_mt 464 (by decide +kernel)⟩
def mX8_repair : bf_M := (yX8_repair, cX8_repair, 2, some .int)
theorem mo_X8_repair : bf_mo mX8_repair 1 := ⟨bf_mt 489 (by decide +kernel), bf_ini_X8, by decide +kernel, ⟨by decide +kernel, by decide +kernel, by decide +kernel⟩, by decide⟩
theorem mv_X8_repair : bf_mv mX8_repair 7 1 := ⟨mo_X8_repair, (RX8, TX8, 7), rfl, bf_mt 487 (by decide +kernel), bf_mt 488 (by decide +kernel)⟩
def mX8_order : bf_M := (yX8_order, cX8_order, 8, some .int)
theorem mo_X8_order : bf_mo mX8_order 5 := ⟨bf_mt 502 (by decide +kernel), bf_ini_X8, by decide +kernel, ⟨by decide +kernel, by decide +kernel, by decide +kernel⟩, by decide⟩
theorem mv_X8_order : bf_mv mX8_order 7 5 := ⟨mo_X8_order, (RX8, TX8, 7), rfl, bf_mt 500 (by decide +kernel), bf_mt 501 (by decide +kernel)⟩
def mX8_reading : bf_M := (yX8_reading, cX8_reading, 4, some .int)
theorem mo_X8_reading : bf_mo mX8_reading 3 := ⟨bf_mt 537 (by decide +kernel), bf_ini_X8, by decide +kernel, ⟨by decide +kernel, by decide +kernel, by decide +kernel⟩, by decide⟩
theorem mv_X8_reading : bf_mv mX8_reading 7 3 := ⟨mo_X8_reading, (RX8, TX8, 7), rfl, bf_mt 535 (by decide +kernel), bf_mt 536 (by decide +kernel)⟩
def mX8_back : bf_M := (yX8_back, cX8_back, 2, some .int)
theorem mo_X8_back : bf_mo mX8_back 1 := ⟨bf_mt 545 (by decide +kernel), bf_ini_X8, by decide +kernel, ⟨by decide +kernel, by decide +kernel, by decide +kernel⟩, by decide⟩
theorem mv_X8_back : bf_mv mX8_back 7 1 := ⟨mo_X8_back, (RX8, TX8, 7), rfl, bf_mt 543 (by decide +kernel), bf_mt 544 (by decide +kernel)⟩
def mX8_deads : bf_M := (yX8_deads, cX8_deads, 9, some .int)
theorem mo_X8_deads : bf_mo mX8_deads 2 := ⟨bf_mt 549 (by decide +kernel), bf_ini_X8, by decide +kernel, ⟨by decide +kernel, by decide +kernel, by decide +kernel⟩, by decide⟩
theorem mv_X8_deads : bf_mv mX8_deads 7 2 := ⟨mo_X8_deads, (RX8, TX8, 7), rfl, bf_mt 547 (by decide +kernel), bf_mt 548 (by decide +kernel)⟩
def mX8_kinds : bf_M := (yX8_kinds, cX8_kinds, 5, some .int)
theorem mo_X8_kinds : bf_mo mX8_kinds 1 := ⟨bf_mt 560 (by decide +kernel), bf_ini_X8, by decide +kernel, ⟨by decide +kernel, by decide +kernel, by decide +kernel⟩, by decide⟩
theorem mv_X8_kinds : bf_mv mX8_kinds 7 1 := ⟨mo_X8_kinds, (RX8, TX8, 7), rfl, bf_mt 558 (by decide +kernel), bf_mt 559 (by decide +kernel)⟩
def mX8_odds : bf_M := (yX8_odds, cX8_odds, 8, some .long)
theorem mo_X8_odds : bf_mo mX8_odds 1 := ⟨bf_mt 564 (by decide +kernel), bf_ini_X8, by decide +kernel, ⟨by decide +kernel, by decide +kernel, by decide +kernel⟩, by decide⟩
theorem mv_X8_odds : bf_mv mX8_odds 7 1 := ⟨mo_X8_odds, (RX8, TX8, 7), rfl, bf_mt 562 (by decide +kernel), bf_mt 563 (by decide +kernel)⟩
def mX8_sheet : bf_M := (yX8_sheet, cX8_sheet, 4, some .int)
theorem mo_X8_sheet : bf_mo mX8_sheet 3 := ⟨bf_mt 580 (by decide +kernel), bf_ini_X8, by decide +kernel, ⟨by decide +kernel, by decide +kernel, by decide +kernel⟩, by decide⟩
theorem mv_X8_sheet : bf_mv mX8_sheet 7 3 := ⟨mo_X8_sheet, (RX8, TX8, 7), rfl, bf_mt 578 (by decide +kernel), bf_mt 579 (by decide +kernel)⟩
def mX8_lose : bf_M := (yX8_lose, cX8_lose, 2, some .int)
theorem mo_X8_lose : bf_mo mX8_lose 1 := ⟨bf_mt 588 (by decide +kernel), bf_ini_X8, by decide +kernel, ⟨by decide +kernel, by decide +kernel, by decide +kernel⟩, by decide⟩
theorem mv_X8_lose : bf_mv mX8_lose 7 1 := ⟨mo_X8_lose, (RX8, TX8, 7), rfl, bf_mt 586 (by decide +kernel), bf_mt 587 (by decide +kernel)⟩
def mX8_put : bf_M := (yX8_put, cX8_put, 5, some .int)
theorem mo_X8_put : bf_mo mX8_put 3 := ⟨bf_mt 596 (by decide +kernel), bf_ini_X8, by decide +kernel, ⟨by decide +kernel, by decide +kernel, by decide +kernel⟩, by decide⟩
theorem mv_X8_put : bf_mv mX8_put 7 3 := ⟨mo_X8_put, (RX8, TX8, 7), rfl, bf_mt 594 (by decide +kernel), bf_mt 595 (by decide +kernel)⟩
def mX8_cell : bf_M := (yX8_cell, cX8_cell, 4, some .long)
theorem mo_X8_cell : bf_mo mX8_cell 3 := ⟨bf_mt 606 (by decide +kernel), bf_ini_X8, by decide +kernel, ⟨by decide +kernel, by decide +kernel, by decide +kernel⟩, by decide⟩
theorem mv_X8_cell : bf_mv mX8_cell 7 3 := ⟨mo_X8_cell, (RX8, TX8, 7), rfl, bf_mt 604 (by decide +kernel), bf_mt 605 (by decide +kernel)⟩
def mX8_copy : bf_M := (yX8_copy, cX8_copy, 8, some .int)
theorem mo_X8_copy : bf_mo mX8_copy 5 := ⟨bf_mt 611 (by decide +kernel), bf_ini_X8, by decide +kernel, ⟨by decide +kernel, by decide +kernel, by decide +kernel⟩, by decide⟩
theorem mv_X8_copy : bf_mv mX8_copy 7 5 := ⟨mo_X8_copy, (RX8, TX8, 7), rfl, bf_mt 609 (by decide +kernel), bf_mt 610 (by decide +kernel)⟩
def mX8_tell : bf_M := (yX8_tell, cX8_tell, 3, some .int)
theorem mo_X8_tell : bf_mo mX8_tell 1 := ⟨bf_mt 620 (by decide +kernel), bf_ini_X8, by decide +kernel, ⟨by decide +kernel, by decide +kernel, by decide +kernel⟩, by decide⟩
theorem mv_X8_tell : bf_mv mX8_tell 7 1 := ⟨mo_X8_tell, (RX8, TX8, 7), rfl, bf_mt 618 (by decide +kernel), bf_mt 619 (by decide +kernel)⟩
def mX8_hum : bf_M := (yX8_hum, cX8_hum, 2, some .int)
theorem mo_X8_hum : bf_mo mX8_hum 1 := ⟨bf_mt 640 (by decide +kernel), bf_ini_X8, by decide +kernel, ⟨by decide +kernel, by decide +kernel, by decide +kernel⟩, by decide⟩
theorem mv_X8_hum : bf_mv mX8_hum 7 1 := ⟨mo_X8_hum, (RX8, TX8, 7), rfl, bf_mt 638 (by decide +kernel), bf_mt 639 (by decide +kernel)⟩
def mX8_as : bf_M := (yX8_as, cX8_as, 3, some .int)
theorem mo_X8_as : bf_mo mX8_as 2 := ⟨bf_mt 644 (by decide +kernel), bf_ini_X8, by decide +kernel, ⟨by decide +kernel, by decide +kernel, by decide +kernel⟩, by decide⟩
theorem mv_X8_as : bf_mv mX8_as 7 2 := ⟨mo_X8_as, (RX8, TX8, 7), rfl, bf_mt 642 (by decide +kernel), bf_mt 643 (by decide +kernel)⟩
def mX8_trace : bf_M := (yX8_trace, cX8_trace, 1, some .int)
theorem mo_X8_trace : bf_mo mX8_trace 0 := ⟨bf_mt 648 (by decide +kernel), bf_ini_X8, by decide +kernel, ⟨by decide +kernel, by decide +kernel, by decide +kernel⟩, by decide⟩
theorem mv_X8_trace : bf_mv mX8_trace 7 0 := ⟨mo_X8_trace, (RX8, TX8, 7), rfl, bf_mt 646 (by decide +kernel), bf_mt 647 (by decide +kernel)⟩
def mX8_fault : bf_M := (yX8_fault, cX8_fault, 1, some .int)
theorem mo_X8_fault : bf_mo mX8_fault 0 := ⟨bf_mt 652 (by decide +kernel), bf_ini_X8, by decide +kernel, ⟨by decide +kernel, by decide +kernel, by decide +kernel⟩, by decide⟩
theorem mv_X8_fault : bf_mv mX8_fault 7 0 := ⟨mo_X8_fault, (RX8, TX8, 7), rfl, bf_mt 650 (by decide +kernel), bf_mt 651 (by decide +kernel)⟩
def mX8_many : bf_M := (yX8_many, cX8_many, 2, some .int)
theorem mo_X8_many : bf_mo mX8_many 1 := ⟨bf_mt 656 (by decide +kernel), bf_ini_X8, by decide +kernel, ⟨by decide +kernel, by decide +kernel, by decide +kernel⟩, by decide⟩
theorem mv_X8_many : bf_mv mX8_many 7 1 := ⟨mo_X8_many, (RX8, TX8, 7), rfl, bf_mt 654 (by decide +kernel), bf_mt 655 (by decide +kernel)⟩
def mX8_isWithin : bf_M := (yX8_isWithin, cX8_isWithin, 2, some .boolean)
theorem mo_X8_isWithin : bf_mo mX8_isWithin 2 := ⟨bf_mt 215 (by decide +kernel), bf_ini_X8, by decide +kernel, ⟨by decide +kernel, by decide +kernel, by decide +kernel⟩, by decide⟩
theorem mv_X8_isWithin : bf_ms mX8_isWithin 2 := ⟨mo_X8_isWithin, bf_mt 214 (by decide +kernel)⟩
def mX8_isPlace : bf_M := (yX8_isPlace, cX8_isPlace, 2, some .boolean)
theorem mo_X8_isPlace : bf_mo mX8_isPlace 1 := ⟨bf_mt 292 (by decide +kernel), bf_ini_X8, by decide +kernel, ⟨by decide +kernel, by decide +kernel, by decide +kernel⟩, by decide⟩
theorem mv_X8_isPlace : bf_mv mX8_isPlace 7 1 := ⟨mo_X8_isPlace, (RX8, TX8, 7), rfl, bf_mt 291 (by decide +kernel), bf_mp (y := yX8_isPlace) (n := 7) 10 (by decide +kernel)⟩
def mX8_isOrderQuestion : bf_M := (yX8_isOrderQuestion, cX8_isOrderQuestion, 1, some .boolean)
theorem mo_X8_isOrderQuestion : bf_mo mX8_isOrderQuestion 1 := ⟨bf_mt 505 (by decide +kernel), bf_ini_X8, by decide +kernel, ⟨by decide +kernel, by decide +kernel, by decide +kernel⟩, by decide⟩
theorem mv_X8_isOrderQuestion : bf_ms mX8_isOrderQuestion 1 := ⟨mo_X8_isOrderQuestion, bf_mt 504 (by decide +kernel)⟩
def mX8_faulted : bf_M := (yX8_faulted, cX8_faulted, 2, some .int)
theorem mo_X8_faulted : bf_mo mX8_faulted 1 := ⟨bf_mt 231 (by decide +kernel), bf_ini_X8, by decide +kernel, ⟨by decide +kernel, by decide +kernel, by decide +kernel⟩, by decide⟩
theorem mv_X8_faulted : bf_mv mX8_faulted 7 1 := ⟨mo_X8_faulted, (RX8, TX8, 7), rfl, bf_mt 230 (by decide +kernel), bf_mp (y := yX8_faulted) (n := 7) 3 (by decide +kernel)⟩
def mX8_pick : bf_M := (yX8_pick, cX8_pick, 4, some .int)
theorem mo_X8_pick : bf_mo mX8_pick 4 := ⟨bf_mt 409 (by decide +kernel), bf_ini_X8, by decide +kernel, ⟨by decide +kernel, by decide +kernel, by decide +kernel⟩, by decide⟩
theorem mv_X8_pick : bf_ms mX8_pick 4 := ⟨mo_X8_pick, bf_mt 408 (by decide +kernel)⟩
def mX8_commonDivisor : bf_M := (yX8_commonDivisor, cX8_commonDivisor, 11, some .long)
theorem mo_X8_commonDivisor : bf_mo mX8_commonDivisor 2 := ⟨bf_mt 576 (by decide +kernel), bf_ini_X8, by decide +kernel, ⟨by decide +kernel, by decide +kernel, by decide +kernel⟩, by decide⟩
theorem mv_X8_commonDivisor : bf_ms mX8_commonDivisor 2 := ⟨mo_X8_commonDivisor, bf_mt 575 (by decide +kernel)⟩
def mX8_leave : bf_M := (yX8_leave, cX8_leave, 2, none)
theorem mo_X8_leave : bf_mo mX8_leave 1 := ⟨bf_mt 628 (by decide +kernel), bf_ini_X8, by decide +kernel, ⟨by decide +kernel, by decide +kernel, by decide +kernel⟩, by decide⟩
theorem mv_X8_leave : bf_mv mX8_leave 7 1 := ⟨mo_X8_leave, (RX8, TX8, 7), rfl, bf_mt 627 (by decide +kernel), bf_mp (y := yX8_leave) (n := 7) 52 (by decide +kernel)⟩
def mX8_fairBody : bf_M := (yX8_fairBody, cX8_fairBody, 2, some .int)
theorem mo_X8_fairBody : bf_mo mX8_fairBody 1 := ⟨bf_mt 636 (by decide +kernel), bf_ini_X8, by decide +kernel, ⟨by decide +kernel, by decide +kernel, by decide +kernel⟩, by decide⟩
theorem mv_X8_fairBody : bf_mv mX8_fairBody 7 1 := ⟨mo_X8_fairBody, (RX8, TX8, 7), rfl, bf_mt 635 (by decide +kernel), bf_mp (y := yX8_fairBody) (n := 7) 54 (by decide +kernel)⟩
def mX8_mirroredBody : bf_M := (yX8_mirroredBody, cX8_mirroredBody, 2, some .int)
theorem mo_X8_mirroredBody : bf_mo mX8_mirroredBody 1 := ⟨bf_mt 632 (by decide +kernel), bf_ini_X8, by decide +kernel, ⟨by decide +kernel, by decide +kernel, by decide +kernel⟩, by decide⟩
theorem mv_X8_mirroredBody : bf_mv mX8_mirroredBody 7 1 := ⟨mo_X8_mirroredBody, (RX8, TX8, 7), rfl, bf_mt 631 (by decide +kernel), bf_mp (y := yX8_mirroredBody) (n := 7) 53 (by decide +kernel)⟩
def mX8_turnedBody : bf_M := (yX8_turnedBody, cX8_turnedBody, 3, some .int)
theorem mo_X8_turnedBody : bf_mo mX8_turnedBody 1 := ⟨bf_mt 624 (by decide +kernel), bf_ini_X8, by decide +kernel, ⟨by decide +kernel, by decide +kernel, by decide +kernel⟩, by decide⟩
theorem mv_X8_turnedBody : bf_mv mX8_turnedBody 7 1 := ⟨mo_X8_turnedBody, (RX8, TX8, 7), rfl, bf_mt 623 (by decide +kernel), bf_mp (y := yX8_turnedBody) (n := 7) 51 (by decide +kernel)⟩
def mX9_init : bf_M := (yX9_init, cX9_init, 2, none)
theorem mo_X9_init : bf_mo mX9_init 0 := ⟨bf_mt 665 (by decide +kernel), bf_ini_X9, by decide +kernel, ⟨by decide +kernel, by decide +kernel, by decide +kernel⟩, by decide⟩
theorem mv_X9_init : bf_mi mX9_init 0 := ⟨mo_X9_init, bf_mt 664 (by decide +kernel), rfl, rfl⟩
def mX9_in : bf_M := (yX9_in, cX9_in, 6, some .boolean)
theorem mo_X9_in : bf_mo mX9_in 3 := ⟨bf_mt 762 (by decide +kernel), bf_ini_X9, by decide +kernel, ⟨by decide +kernel, by decide +kernel, by decide +kernel⟩, by decide⟩
theorem mv_X9_in : bf_ms mX9_in 3 := ⟨mo_X9_in, bf_mt 761 (by decide +kernel)⟩
def mX9_lost : bf_M := (yX9_lost, cX9_lost, 0, some .long)
theorem mo_X9_lost : bf_mo mX9_lost 0 := ⟨bf_mt 1022 (by decide +kernel), bf_ini_X9, by decide +kernel, ⟨by decide +kernel, by decide +kernel, by decide +kernel⟩, by decide⟩
theorem mv_X9_lost : bf_ms mX9_lost 0 := ⟨mo_X9_lost, bf_mt 1021 (by decide +kernel)⟩
def mX9_isIn : bf_M := (yX9_isIn, cX9_isIn, 2, some .boolean)
theorem mo_X9_isIn : bf_mo mX9_isIn 2 := ⟨bf_mt 850 (by decide +kernel), bf_ini_X9, by decide +kernel, ⟨by decide +kernel, by decide +kernel, by decide +kernel⟩, by decide⟩
theorem mv_X9_isIn : bf_ms mX9_isIn 2 := ⟨mo_X9_isIn, bf_mt 849 (by decide +kernel)⟩
def mX9_bits : bf_M := (yX9_bits, cX9_bits, 3, some .int)
theorem mo_X9_bits : bf_mo mX9_bits 1 := ⟨bf_mt 882 (by decide +kernel), bf_ini_X9, by decide +kernel, ⟨by decide +kernel, by decide +kernel, by decide +kernel⟩, by decide⟩
theorem mv_X9_bits : bf_ms mX9_bits 1 := ⟨mo_X9_bits, bf_mt 881 (by decide +kernel)⟩
def mX9_share : bf_M := (yX9_share, cX9_share, 11, some .long)
theorem mo_X9_share : bf_mo mX9_share 3 := ⟨bf_mt 1026 (by decide +kernel), bf_ini_X9, by decide +kernel, ⟨by decide +kernel, by decide +kernel, by decide +kernel⟩, by decide⟩
theorem mv_X9_share : bf_ms mX9_share 3 := ⟨mo_X9_share, bf_mt 1025 (by decide +kernel)⟩
def mX9_refused : bf_M := (yX9_refused, cX9_refused, 2, some .int)
theorem mo_X9_refused : bf_mo mX9_refused 1 := ⟨bf_mt 766 (by decide +kernel), bf_ini_X9, by decide +kernel, ⟨by decide +kernel, by decide +kernel, by decide +kernel⟩, by decide⟩
theorem mv_X9_refused : bf_mv mX9_refused 8 1 := ⟨mo_X9_refused, (RX9, TX9, 28), rfl, bf_mt 765 (by decide +kernel), bf_mp (y := yX9_refused) (n := 28) 56 (by decide +kernel)⟩
def mX9_failed : bf_M := (yX9_failed, cX9_failed, 2, some .int)
theorem mo_X9_failed : bf_mo mX9_failed 1 := ⟨bf_mt 775 (by decide +kernel), bf_ini_X9, by decide +kernel, ⟨by decide +kernel, by decide +kernel, by decide +kernel⟩, by decide⟩
theorem mv_X9_failed : bf_mv mX9_failed 8 1 := ⟨mo_X9_failed, (RX9, TX9, 28), rfl, bf_mt 774 (by decide +kernel), bf_mp (y := yX9_failed) (n := 28) 58 (by decide +kernel)⟩
def mX9_failedLong : bf_M := (yX9_failedLong, cX9_failedLong, 2, some .long)
theorem mo_X9_failedLong : bf_mo mX9_failedLong 1 := ⟨bf_mt 1050 (by decide +kernel), bf_ini_X9, by decide +kernel, ⟨by decide +kernel, by decide +kernel, by decide +kernel⟩, by decide⟩
theorem mv_X9_failedLong : bf_mv mX9_failedLong 8 1 := ⟨mo_X9_failedLong, (RX9, TX9, 28), rfl, bf_mt 1049 (by decide +kernel), bf_mp (y := yX9_failedLong) (n := 28) 89 (by decide +kernel)⟩
def mX9_noPlace : bf_M := (yX9_noPlace, cX9_noPlace, 2, some .boolean)
theorem mo_X9_noPlace : bf_mo mX9_noPlace 1 := ⟨bf_mt 806 (by decide +kernel), bf_ini_X9, by decide +kernel, ⟨by decide +kernel, by decide +kernel, by decide +kernel⟩, by decide⟩
theorem mv_X9_noPlace : bf_mv mX9_noPlace 8 1 := ⟨mo_X9_noPlace, (RX9, TX9, 28), rfl, bf_mt 805 (by decide +kernel), bf_mp (y := yX9_noPlace) (n := 28) 64 (by decide +kernel)⟩
def mX9_codeAt : bf_M := (yX9_codeAt, cX9_codeAt, 3, some .int)
theorem mo_X9_codeAt : bf_mo mX9_codeAt 2 := ⟨bf_mt 786 (by decide +kernel), bf_ini_X9, by decide +kernel, ⟨by decide +kernel, by decide +kernel, by decide +kernel⟩, by decide⟩
theorem mv_X9_codeAt : bf_mv mX9_codeAt 8 2 := ⟨mo_X9_codeAt, (RX9, TX9, 28), rfl, bf_mt 785 (by decide +kernel), bf_mp (y := yX9_codeAt) (n := 28) 60 (by decide +kernel)⟩
def mX9_figure : bf_M := (yX9_figure, cX9_figure, 8, some .int)
theorem mo_X9_figure : bf_mo mX9_figure 5 := ⟨bf_mt 790 (by decide +kernel), bf_ini_X9, by decide +kernel, ⟨by decide +kernel, by decide +kernel, by decide +kernel⟩, by decide⟩
theorem mv_X9_figure : bf_mv mX9_figure 8 5 := ⟨mo_X9_figure, (RX9, TX9, 28), rfl, bf_mt 789 (by decide +kernel), bf_mp (y := yX9_figure) (n := 28) 61 (by decide +kernel)⟩
def mX9_barsRead : bf_M := (yX9_barsRead, cX9_barsRead, 6, some .int)
theorem mo_X9_barsRead : bf_mo mX9_barsRead 2 := ⟨bf_mt 798 (by decide +kernel), bf_ini_X9, by decide +kernel, ⟨by decide +kernel, by decide +kernel, by decide +kernel⟩, by decide⟩
theorem mv_X9_barsRead : bf_mv mX9_barsRead 8 2 := ⟨mo_X9_barsRead, (RX9, TX9, 28), rfl, bf_mt 797 (by decide +kernel), bf_mp (y := yX9_barsRead) (n := 28) 63 (by decide +kernel)⟩
def mX9_readsPlace : bf_M := (yX9_readsPlace, cX9_readsPlace, 6, some .boolean)
theorem mo_X9_readsPlace : bf_mo mX9_readsPlace 2 := ⟨bf_mt 794 (by decide +kernel), bf_ini_X9, by decide +kernel, ⟨by decide +kernel, by decide +kernel, by decide +kernel⟩, by decide⟩
theorem mv_X9_readsPlace : bf_mv mX9_readsPlace 8 2 := ⟨mo_X9_readsPlace, (RX9, TX9, 28), rfl, bf_mt 793 (by decide +kernel), bf_mp (y := yX9_readsPlace) (n := 28) 62 (by decide +kernel)⟩
def mX9_lifeRead : bf_M := (yX9_lifeRead, cX9_lifeRead, 6, some .int)
theorem mo_X9_lifeRead : bf_mo mX9_lifeRead 2 := ⟨bf_mt 782 (by decide +kernel), bf_ini_X9, by decide +kernel, ⟨by decide +kernel, by decide +kernel, by decide +kernel⟩, by decide⟩
theorem mv_X9_lifeRead : bf_mv mX9_lifeRead 8 2 := ⟨mo_X9_lifeRead, (RX9, TX9, 28), rfl, bf_mt 781 (by decide +kernel), bf_mp (y := yX9_lifeRead) (n := 28) 59 (by decide +kernel)⟩
def mX9_cellsBarred : bf_M := (yX9_cellsBarred, cX9_cellsBarred, 6, some .int)
theorem mo_X9_cellsBarred : bf_mo mX9_cellsBarred 4 := ⟨bf_mt 771 (by decide +kernel), bf_ini_X9, by decide +kernel, ⟨by decide +kernel, by decide +kernel, by decide +kernel⟩, by decide⟩
theorem mv_X9_cellsBarred : bf_mv mX9_cellsBarred 8 4 := ⟨mo_X9_cellsBarred, (RX9, TX9, 28), rfl, bf_mt 770 (by decide +kernel), bf_mp (y := yX9_cellsBarred) (n := 28) 57 (by decide +kernel)⟩
def mX9_panel : bf_M := (yX9_panel, cX9_panel, 8, some .int)
theorem mo_X9_panel : bf_mo mX9_panel 4 := ⟨bf_mt 755 (by decide +kernel), bf_ini_X9, by decide +kernel, ⟨by decide +kernel, by decide +kernel, by decide +kernel⟩, by decide⟩
theorem mv_X9_panel : bf_mv mX9_panel 8 4 := ⟨mo_X9_panel, (RX9, TX9, 28), rfl, bf_mt 753 (by decide +kernel), bf_mt 754 (by decide +kernel)⟩
def mX9_figureOf : bf_M := (yX9_figureOf, cX9_figureOf, 1, some .int)
theorem mo_X9_figureOf : bf_mo mX9_figureOf 1 := ⟨bf_mt 820 (by decide +kernel), bf_ini_X9, by decide +kernel, ⟨by decide +kernel, by decide +kernel, by decide +kernel⟩, by decide⟩
theorem mv_X9_figureOf : bf_ms mX9_figureOf 1 := ⟨mo_X9_figureOf, bf_mt 819 (by decide +kernel)⟩
def mX9_exchanged : bf_M := (yX9_exchanged, cX9_exchanged, 4, some .int)
theorem mo_X9_exchanged : bf_mo mX9_exchanged 3 := ⟨bf_mt 826 (by decide +kernel), bf_ini_X9, by decide +kernel, ⟨by decide +kernel, by decide +kernel, by decide +kernel⟩, by decide⟩
theorem mv_X9_exchanged : bf_ms mX9_exchanged 3 := ⟨mo_X9_exchanged, bf_mt 825 (by decide +kernel)⟩
def mX9_mirrored : bf_M := (yX9_mirrored, cX9_mirrored, 1, some .int)
theorem mo_X9_mirrored : bf_mo mX9_mirrored 1 := ⟨bf_mt 823 (by decide +kernel), bf_ini_X9, by decide +kernel, ⟨by decide +kernel, by decide +kernel, by decide +kernel⟩, by decide⟩
theorem mv_X9_mirrored : bf_ms mX9_mirrored 1 := ⟨mo_X9_mirrored, bf_mt 822 (by decide +kernel)⟩
def mX9_turned : bf_M := (yX9_turned, cX9_turned, 1, some .int)
theorem mo_X9_turned : bf_mo mX9_turned 1 := ⟨bf_mt 829 (by decide +kernel), bf_ini_X9, by decide +kernel, ⟨by decide +kernel, by decide +kernel, by decide +kernel⟩, by decide⟩
theorem mv_X9_turned : bf_ms mX9_turned 1 := ⟨mo_X9_turned, bf_mt 828 (by decide +kernel)⟩
def mX9_faceOf : bf_M := (yX9_faceOf, cX9_faceOf, 3, some .int)
theorem mo_X9_faceOf : bf_mo mX9_faceOf 2 := ⟨bf_mt 817 (by decide +kernel), bf_ini_X9, by decide +kernel, ⟨by decide +kernel, by decide +kernel, by decide +kernel⟩, by decide⟩
theorem mv_X9_faceOf : bf_ms mX9_faceOf 2 := ⟨mo_X9_faceOf, bf_mt 816 (by decide +kernel)⟩
def mX9_burnsAt : bf_M := (yX9_burnsAt, cX9_burnsAt, 3, some .int)
theorem mo_X9_burnsAt : bf_mo mX9_burnsAt 2 := ⟨bf_mt 814 (by decide +kernel), bf_ini_X9, by decide +kernel, ⟨by decide +kernel, by decide +kernel, by decide +kernel⟩, by decide⟩
theorem mv_X9_burnsAt : bf_mv mX9_burnsAt 8 2 := ⟨mo_X9_burnsAt, (RX9, TX9, 28), rfl, bf_mt 813 (by decide +kernel), bf_mp (y := yX9_burnsAt) (n := 28) 66 (by decide +kernel)⟩
def mX9_ten : bf_M := (yX9_ten, cX9_ten, 4, some .int)
theorem mo_X9_ten : bf_mo mX9_ten 1 := ⟨bf_mt 837 (by decide +kernel), bf_ini_X9, by decide +kernel, ⟨by decide +kernel, by decide +kernel, by decide +kernel⟩, by decide⟩
theorem mv_X9_ten : bf_mv mX9_ten 8 1 := ⟨mo_X9_ten, (RX9, TX9, 28), rfl, bf_mt 836 (by decide +kernel), bf_mp (y := yX9_ten) (n := 28) 68 (by decide +kernel)⟩
def mX9_last : bf_M := (yX9_last, cX9_last, 1, some .int)
theorem mo_X9_last : bf_mo mX9_last 0 := ⟨bf_mt 879 (by decide +kernel), bf_ini_X9, by decide +kernel, ⟨by decide +kernel, by decide +kernel, by decide +kernel⟩, by decide⟩
theorem mv_X9_last : bf_mv mX9_last 8 0 := ⟨mo_X9_last, (RX9, TX9, 28), rfl, bf_mt 878 (by decide +kernel), bf_mp (y := yX9_last) (n := 28) 71 (by decide +kernel)⟩
def mX9_digitAt : bf_M := (yX9_digitAt, cX9_digitAt, 3, some .int)
theorem mo_X9_digitAt : bf_mo mX9_digitAt 2 := ⟨bf_mt 833 (by decide +kernel), bf_ini_X9, by decide +kernel, ⟨by decide +kernel, by decide +kernel, by decide +kernel⟩, by decide⟩
theorem mv_X9_digitAt : bf_mv mX9_digitAt 8 2 := ⟨mo_X9_digitAt, (RX9, TX9, 28), rfl, bf_mt 832 (by decide +kernel), bf_mp (y := yX9_digitAt) (n := 28) 67 (by decide +kernel)⟩
def mX9_unlikeAt : bf_M := (yX9_unlikeAt, cX9_unlikeAt, 6, some .int)
theorem mo_X9_unlikeAt : bf_mo mX9_unlikeAt 1 := ⟨bf_mt 810 (by decide +kernel), bf_ini_X9, by decide +kernel, ⟨by decide +kernel, by decide +kernel, by decide +kernel⟩, by decide⟩
theorem mv_X9_unlikeAt : bf_mv mX9_unlikeAt 8 1 := ⟨mo_X9_unlikeAt, (RX9, TX9, 28), rfl, bf_mt 809 (by decide +kernel), bf_mp (y := yX9_unlikeAt) (n := 28) 65 (by decide +kernel)⟩
def mX9_ofPlace : bf_M := (yX9_ofPlace, cX9_ofPlace, 3, some .int)
theorem mo_X9_ofPlace : bf_mo mX9_ofPlace 2 := ⟨bf_mt 802 (by decide +kernel), bf_ini_X9, by decide +kernel, ⟨by decide +kernel, by decide +kernel, by decide +kernel⟩, by decide⟩
theorem mv_X9_ofPlace : bf_mv mX9_ofPlace 8 2 := ⟨mo_X9_ofPlace, (RX9, TX9, 28), rfl, bf_mt 800 (by decide +kernel), bf_mt 801 (by decide +kernel)⟩
def mX9_wear : bf_M := (yX9_wear, cX9_wear, 3, some .int)
theorem mo_X9_wear : bf_mo mX9_wear 2 := ⟨bf_mt 841 (by decide +kernel), bf_ini_X9, by decide +kernel, ⟨by decide +kernel, by decide +kernel, by decide +kernel⟩, by decide⟩
theorem mv_X9_wear : bf_mv mX9_wear 8 2 := ⟨mo_X9_wear, (RX9, TX9, 28), rfl, bf_mt 839 (by decide +kernel), bf_mt 840 (by decide +kernel)⟩
def mX9_kill : bf_M := (yX9_kill, cX9_kill, 5, some .int)
theorem mo_X9_kill : bf_mo mX9_kill 2 := ⟨bf_mt 846 (by decide +kernel), bf_ini_X9, by decide +kernel, ⟨by decide +kernel, by decide +kernel, by decide +kernel⟩, by decide⟩
theorem mv_X9_kill : bf_mv mX9_kill 8 2 := ⟨mo_X9_kill, (RX9, TX9, 28), rfl, bf_mt 844 (by decide +kernel), bf_mt 845 (by decide +kernel)⟩
def mX9_jam : bf_M := (yX9_jam, cX9_jam, 4, some .int)
theorem mo_X9_jam : bf_mo mX9_jam 2 := ⟨bf_mt 854 (by decide +kernel), bf_ini_X9, by decide +kernel, ⟨by decide +kernel, by decide +kernel, by decide +kernel⟩, by decide⟩
theorem mv_X9_jam : bf_mv mX9_jam 8 2 := ⟨mo_X9_jam, (RX9, TX9, 28), rfl, bf_mt 852 (by decide +kernel), bf_mt 853 (by decide +kernel)⟩
def mX9_burns : bf_M := (yX9_burns, cX9_burns, 3, some .int)
theorem mo_X9_burns : bf_mo mX9_burns 2 := ⟨bf_mt 858 (by decide +kernel), bf_ini_X9, by decide +kernel, ⟨by decide +kernel, by decide +kernel, by decide +kernel⟩, by decide⟩
theorem mv_X9_burns : bf_mv mX9_burns 8 2 := ⟨mo_X9_burns, (RX9, TX9, 28), rfl, bf_mt 856 (by decide +kernel), bf_mt 857 (by decide +kernel)⟩
def mX9_digitsOf : bf_M := (yX9_digitsOf, cX9_digitsOf, 5, some .int)
theorem mo_X9_digitsOf : bf_mo mX9_digitsOf 2 := ⟨bf_mt 867 (by decide +kernel), bf_ini_X9, by decide +kernel, ⟨by decide +kernel, by decide +kernel, by decide +kernel⟩, by decide⟩
theorem mv_X9_digitsOf : bf_mv mX9_digitsOf 8 2 := ⟨mo_X9_digitsOf, (RX9, TX9, 28), rfl, bf_mt 866 (by decide +kernel), bf_mp (y := yX9_digitsOf) (n := 28) 69 (by decide +kernel)⟩
def mX9_digits : bf_M := (yX9_digits, cX9_digits, 3, some .int)
theorem mo_X9_digits : bf_mo mX9_digits 2 := ⟨bf_mt 863 (by decide +kernel), bf_ini_X9, by decide +kernel, ⟨by decide +kernel, by decide +kernel, by decide +kernel⟩, by decide⟩
theorem mv_X9_digits : bf_mv mX9_digits 8 2 := ⟨mo_X9_digits, (RX9, TX9, 28), rfl, bf_mt 861 (by decide +kernel), bf_mt 862 (by decide +kernel)⟩
def mX9_noNumber : bf_M := (yX9_noNumber, cX9_noNumber, 2, some .boolean)
theorem mo_X9_noNumber : bf_mo mX9_noNumber 1 := ⟨bf_mt 875 (by decide +kernel), bf_ini_X9, by decide +kernel, ⟨by decide +kernel, by decide +kernel, by decide +kernel⟩, by decide⟩
theorem mv_X9_noNumber : bf_mv mX9_noNumber 8 1 := ⟨mo_X9_noNumber, (RX9, TX9, 28), rfl, bf_mt 874 (by decide +kernel), bf_mp (y := yX9_noNumber) (n := 28) 70 (by decide +kernel)⟩
def mX9_bars : bf_M := (yX9_bars, cX9_bars, 4, some .int)
theorem mo_X9_bars : bf_mo mX9_bars 1 := ⟨bf_mt 871 (by decide +kernel), bf_ini_X9, by decide +kernel, ⟨by decide +kernel, by decide +kernel, by decide +kernel⟩, by decide⟩
theorem mv_X9_bars : bf_mv mX9_bars 8 1 := ⟨mo_X9_bars, (RX9, TX9, 28), rfl, bf_mt 869 (by decide +kernel), bf_mt 870 (by decide +kernel)⟩
def mX9_flipsOf : bf_M := (yX9_flipsOf, cX9_flipsOf, 7, some .int)
theorem mo_X9_flipsOf : bf_mo mX9_flipsOf 2 := ⟨bf_mt 895 (by decide +kernel), bf_ini_X9, by decide +kernel, ⟨by decide +kernel, by decide +kernel, by decide +kernel⟩, by decide⟩
theorem mv_X9_flipsOf : bf_mv mX9_flipsOf 8 2 := ⟨mo_X9_flipsOf, (RX9, TX9, 28), rfl, bf_mt 894 (by decide +kernel), bf_mp (y := yX9_flipsOf) (n := 28) 72 (by decide +kernel)⟩
def mX9_alike : bf_M := (yX9_alike, cX9_alike, 4, some .int)
theorem mo_X9_alike : bf_mo mX9_alike 1 := ⟨bf_mt 886 (by decide +kernel), bf_ini_X9, by decide +kernel, ⟨by decide +kernel, by decide +kernel, by decide +kernel⟩, by decide⟩
theorem mv_X9_alike : bf_mv mX9_alike 8 1 := ⟨mo_X9_alike, (RX9, TX9, 28), rfl, bf_mt 884 (by decide +kernel), bf_mt 885 (by decide +kernel)⟩
def mX9_which : bf_M := (yX9_which, cX9_which, 5, some .int)
theorem mo_X9_which : bf_mo mX9_which 2 := ⟨bf_mt 890 (by decide +kernel), bf_ini_X9, by decide +kernel, ⟨by decide +kernel, by decide +kernel, by decide +kernel⟩, by decide⟩
theorem mv_X9_which : bf_mv mX9_which 8 2 := ⟨mo_X9_which, (RX9, TX9, 28), rfl, bf_mt 888 (by decide +kernel), bf_mt 889 (by decide +kernel)⟩
def mX9_flips : bf_M := (yX9_flips, cX9_flips, 3, some .int)
theorem mo_X9_flips : bf_mo mX9_flips 2 := ⟨bf_mt 899 (by decide +kernel), bf_ini_X9, by decide +kernel, ⟨by decide +kernel, by decide +kernel, by decide +kernel⟩, by decide⟩
theorem mv_X9_flips : bf_mv mX9_flips 8 2 := ⟨mo_X9_flips, (RX9, TX9, 28), rfl, bf_mt 897 (by decide +kernel), bf_mt 898 (by decide +kernel)⟩
def mX9_counting : bf_M := (yX9_counting, cX9_counting, 9, some .int)
theorem mo_X9_counting : bf_mo mX9_counting 3 := ⟨bf_mt 903 (by decide +kernel), bf_ini_X9, by decide +kernel, ⟨by decide +kernel, by decide +kernel, by decide +kernel⟩, by decide⟩
theorem mv_X9_counting : bf_mv mX9_counting 8 3 := ⟨mo_X9_counting, (RX9, TX9, 28), rfl, bf_mt 901 (by decide +kernel), bf_mt 902 (by decide +kernel)⟩
def mX9_near : bf_M := (yX9_near, cX9_near, 7, some .int)
theorem mo_X9_near : bf_mo mX9_near 2 := ⟨bf_mt 907 (by decide +kernel), bf_ini_X9, by decide +kernel, ⟨by decide +kernel, by decide +kernel, by decide +kernel⟩, by decide⟩
theorem mv_X9_near : bf_mv mX9_near 8 2 := ⟨mo_X9_near, (RX9, TX9, 28), rfl, bf_mt 905 (by decide +kernel), bf_mt 906 (by decide +kernel)⟩
def mX9_pictures : bf_M := (yX9_pictures, cX9_pictures, 3, some .int)
theorem mo_X9_pictures : bf_mo mX9_pictures 0 := ⟨bf_mt 911 (by decide +kernel), bf_ini_X9, by decide +kernel, ⟨by decide +kernel, by decide +kernel, by decide +kernel⟩, by decide⟩
theorem mv_X9_pictures : bf_mv mX9_pictures 8 0 := ⟨mo_X9_pictures, (RX9, TX9, 28), rfl, bf_mt 909 (by decide +kernel), bf_mt 910 (by decide +kernel)⟩
def mX9_keepAll : bf_M := (yX9_keepAll, cX9_keepAll, 2, none)
theorem mo_X9_keepAll : bf_mo mX9_keepAll 0 := ⟨bf_mt 940 (by decide +kernel), bf_ini_X9, by decide +kernel, ⟨by decide +kernel, by decide +kernel, by decide +kernel⟩, by decide⟩
theorem mv_X9_keepAll : bf_mv mX9_keepAll 8 0 := ⟨mo_X9_keepAll, (RX9, TX9, 28), rfl, bf_mt 939 (by decide +kernel), bf_mp (y := yX9_keepAll) (n := 28) 77 (by decide +kernel)⟩
def mX9_bringBack : bf_M := (yX9_bringBack, cX9_bringBack, 2, none)
theorem mo_X9_bringBack : bf_mo mX9_bringBack 0 := ⟨bf_mt 944 (by decide +kernel), bf_ini_X9, by decide +kernel, ⟨by decide +kernel, by decide +kernel, by decide +kernel⟩, by decide⟩
theorem mv_X9_bringBack : bf_mv mX9_bringBack 8 0 := ⟨mo_X9_bringBack, (RX9, TX9, 28), rfl, bf_mt 943 (by decide +kernel), bf_mp (y := yX9_bringBack) (n := 28) 78 (by decide +kernel)⟩
def mX9_wears : bf_M := (yX9_wears, cX9_wears, 5, none)
theorem mo_X9_wears : bf_mo mX9_wears 2 := ⟨bf_mt 928 (by decide +kernel), bf_ini_X9, by decide +kernel, ⟨by decide +kernel, by decide +kernel, by decide +kernel⟩, by decide⟩
theorem mv_X9_wears : bf_mv mX9_wears 8 2 := ⟨mo_X9_wears, (RX9, TX9, 28), rfl, bf_mt 927 (by decide +kernel), bf_mp (y := yX9_wears) (n := 28) 75 (by decide +kernel)⟩
def mX9_step : bf_M := (yX9_step, cX9_step, 3, none)
theorem mo_X9_step : bf_mo mX9_step 0 := ⟨bf_mt 924 (by decide +kernel), bf_ini_X9, by decide +kernel, ⟨by decide +kernel, by decide +kernel, by decide +kernel⟩, by decide⟩
theorem mv_X9_step : bf_mv mX9_step 8 0 := ⟨mo_X9_step, (RX9, TX9, 28), rfl, bf_mt 923 (by decide +kernel), bf_mp (y := yX9_step) (n := 28) 74 (by decide +kernel)⟩
def mX9_deadNow : bf_M := (yX9_deadNow, cX9_deadNow, 3, some .int)
theorem mo_X9_deadNow : bf_mo mX9_deadNow 0 := ⟨bf_mt 920 (by decide +kernel), bf_ini_X9, by decide +kernel, ⟨by decide +kernel, by decide +kernel, by decide +kernel⟩, by decide⟩
theorem mv_X9_deadNow : bf_mv mX9_deadNow 8 0 := ⟨mo_X9_deadNow, (RX9, TX9, 28), rfl, bf_mt 919 (by decide +kernel), bf_mp (y := yX9_deadNow) (n := 28) 73 (by decide +kernel)⟩
def mX9_go : bf_M := (yX9_go, cX9_go, 4, some .int)
theorem mo_X9_go : bf_mo mX9_go 1 := ⟨bf_mt 915 (by decide +kernel), bf_ini_X9, by decide +kernel, ⟨by decide +kernel, by decide +kernel, by decide +kernel⟩, by decide⟩
theorem mv_X9_go : bf_mv mX9_go 8 1 := ⟨mo_X9_go, (RX9, TX9, 28), rfl, bf_mt 913 (by decide +kernel), bf_mt 914 (by decide +kernel)⟩
def mX9_diesAt : bf_M := (yX9_diesAt, cX9_diesAt, 5, some .int)
theorem mo_X9_diesAt : bf_mo mX9_diesAt 2 := ⟨bf_mt 936 (by decide +kernel), bf_ini_X9, by decide +kernel, ⟨by decide +kernel, by decide +kernel, by decide +kernel⟩, by decide⟩
theorem mv_X9_diesAt : bf_mv mX9_diesAt 8 2 := ⟨mo_X9_diesAt, (RX9, TX9, 28), rfl, bf_mt 935 (by decide +kernel), bf_mp (y := yX9_diesAt) (n := 28) 76 (by decide +kernel)⟩
def mX9_dies : bf_M := (yX9_dies, cX9_dies, 3, some .int)
theorem mo_X9_dies : bf_mo mX9_dies 2 := ⟨bf_mt 932 (by decide +kernel), bf_ini_X9, by decide +kernel, ⟨by decide +kernel, by decide +kernel, by decide +kernel⟩, by decide⟩
theorem mv_X9_dies : bf_mv mX9_dies 8 2 := ⟨mo_X9_dies, (RX9, TX9, 28), rfl, bf_mt 930 (by decide +kernel), bf_mt 931 (by decide +kernel)⟩
def mX9_firstDead : bf_M := (yX9_firstDead, cX9_firstDead, 3, some .int)
theorem mo_X9_firstDead : bf_mo mX9_firstDead 0 := ⟨bf_mt 952 (by decide +kernel), bf_ini_X9, by decide +kernel, ⟨by decide +kernel, by decide +kernel, by decide +kernel⟩, by decide⟩
theorem mv_X9_firstDead : bf_mv mX9_firstDead 8 0 := ⟨mo_X9_firstDead, (RX9, TX9, 28), rfl, bf_mt 951 (by decide +kernel), bf_mp (y := yX9_firstDead) (n := 28) 79 (by decide +kernel)⟩
def mX9_first : bf_M := (yX9_first, cX9_first, 4, some .int)
theorem mo_X9_first : bf_mo mX9_first 1 := ⟨bf_mt 948 (by decide +kernel), bf_ini_X9, by decide +kernel, ⟨by decide +kernel, by decide +kernel, by decide +kernel⟩, by decide⟩
theorem mv_X9_first : bf_mv mX9_first 8 1 := ⟨mo_X9_first, (RX9, TX9, 28), rfl, bf_mt 946 (by decide +kernel), bf_mt 947 (by decide +kernel)⟩
def mX9_begins : bf_M := (yX9_begins, cX9_begins, 8, some .boolean)
theorem mo_X9_begins : bf_mo mX9_begins 4 := ⟨bf_mt 966 (by decide +kernel), bf_ini_X9, by decide +kernel, ⟨by decide +kernel, by decide +kernel, by decide +kernel⟩, by decide⟩
theorem mv_X9_begins : bf_mv mX9_begins 8 4 := ⟨mo_X9_begins, (RX9, TX9, 28), rfl, bf_mt 965 (by decide +kernel), bf_mp (y := yX9_begins) (n := 28) 81 (by decide +kernel)⟩
def mX9_beginsBy : bf_M := (yX9_beginsBy, cX9_beginsBy, 9, some .int)
theorem mo_X9_beginsBy : bf_mo mX9_beginsBy 4 := ⟨bf_mt 962 (by decide +kernel), bf_ini_X9, by decide +kernel, ⟨by decide +kernel, by decide +kernel, by decide +kernel⟩, by decide⟩
theorem mv_X9_beginsBy : bf_mv mX9_beginsBy 8 4 := ⟨mo_X9_beginsBy, (RX9, TX9, 28), rfl, bf_mt 961 (by decide +kernel), bf_mp (y := yX9_beginsBy) (n := 28) 80 (by decide +kernel)⟩
def mX9_seen : bf_M := (yX9_seen, cX9_seen, 9, some .int)
theorem mo_X9_seen : bf_mo mX9_seen 6 := ⟨bf_mt 956 (by decide +kernel), bf_ini_X9, by decide +kernel, ⟨by decide +kernel, by decide +kernel, by decide +kernel⟩, by decide⟩
theorem mv_X9_seen : bf_mv mX9_seen 8 6 := ⟨mo_X9_seen, (RX9, TX9, 28), rfl, bf_mt 954 (by decide +kernel), bf_mt 955 (by decide +kernel)⟩
def mX9_repair : bf_M := (yX9_repair, cX9_repair, 6, some .int)
theorem mo_X9_repair : bf_mo mX9_repair 1 := ⟨bf_mt 970 (by decide +kernel), bf_ini_X9, by decide +kernel, ⟨by decide +kernel, by decide +kernel, by decide +kernel⟩, by decide⟩
theorem mv_X9_repair : bf_mv mX9_repair 8 1 := ⟨mo_X9_repair, (RX9, TX9, 28), rfl, bf_mt 968 (by decide +kernel), bf_mt 969 (by decide +kernel)⟩
def mX9_orderFlips : bf_M := (yX9_orderFlips, cX9_orderFlips, 4, some .int)
theorem mo_X9_orderFlips : bf_mo mX9_orderFlips 1 := ⟨bf_mt 983 (by decide +kernel), bf_ini_X9, by decide +kernel, ⟨by decide +kernel, by decide +kernel, by decide +kernel⟩, by decide⟩
theorem mv_X9_orderFlips : bf_mv mX9_orderFlips 8 1 := ⟨mo_X9_orderFlips, (RX9, TX9, 28), rfl, bf_mt 982 (by decide +kernel), bf_mp (y := yX9_orderFlips) (n := 28) 83 (by decide +kernel)⟩
def mX9_exchange : bf_M := (yX9_exchange, cX9_exchange, 4, none)
theorem mo_X9_exchange : bf_mo mX9_exchange 2 := ⟨bf_mt 991 (by decide +kernel), bf_ini_X9, by decide +kernel, ⟨by decide +kernel, by decide +kernel, by decide +kernel⟩, by decide⟩
theorem mv_X9_exchange : bf_mv mX9_exchange 8 2 := ⟨mo_X9_exchange, (RX9, TX9, 28), rfl, bf_mt 990 (by decide +kernel), bf_mp (y := yX9_exchange) (n := 28) 85 (by decide +kernel)⟩
def mX9_nextOrder : bf_M := (yX9_nextOrder, cX9_nextOrder, 6, some .boolean)
theorem mo_X9_nextOrder : bf_mo mX9_nextOrder 1 := ⟨bf_mt 987 (by decide +kernel), bf_ini_X9, by decide +kernel, ⟨by decide +kernel, by decide +kernel, by decide +kernel⟩, by decide⟩
theorem mv_X9_nextOrder : bf_mv mX9_nextOrder 8 1 := ⟨mo_X9_nextOrder, (RX9, TX9, 28), rfl, bf_mt 986 (by decide +kernel), bf_mp (y := yX9_nextOrder) (n := 28) 84 (by decide +kernel)⟩
def mX9_orderBy : bf_M := (yX9_orderBy, cX9_orderBy, 9, some .int)
theorem mo_X9_orderBy : bf_mo mX9_orderBy 3 := ⟨bf_mt 979 (by decide +kernel), bf_ini_X9, by decide +kernel, ⟨by decide +kernel, by decide +kernel, by decide +kernel⟩, by decide⟩
theorem mv_X9_orderBy : bf_mv mX9_orderBy 8 3 := ⟨mo_X9_orderBy, (RX9, TX9, 28), rfl, bf_mt 978 (by decide +kernel), bf_mp (y := yX9_orderBy) (n := 28) 82 (by decide +kernel)⟩
def mX9_order : bf_M := (yX9_order, cX9_order, 8, some .int)
theorem mo_X9_order : bf_mo mX9_order 5 := ⟨bf_mt 974 (by decide +kernel), bf_ini_X9, by decide +kernel, ⟨by decide +kernel, by decide +kernel, by decide +kernel⟩, by decide⟩
theorem mv_X9_order : bf_mv mX9_order 8 5 := ⟨mo_X9_order, (RX9, TX9, 28), rfl, bf_mt 972 (by decide +kernel), bf_mt 973 (by decide +kernel)⟩
def mX9_reading : bf_M := (yX9_reading, cX9_reading, 4, some .int)
theorem mo_X9_reading : bf_mo mX9_reading 3 := ⟨bf_mt 995 (by decide +kernel), bf_ini_X9, by decide +kernel, ⟨by decide +kernel, by decide +kernel, by decide +kernel⟩, by decide⟩
theorem mv_X9_reading : bf_mv mX9_reading 8 3 := ⟨mo_X9_reading, (RX9, TX9, 28), rfl, bf_mt 993 (by decide +kernel), bf_mt 994 (by decide +kernel)⟩
def mX9_back : bf_M := (yX9_back, cX9_back, 2, some .int)
theorem mo_X9_back : bf_mo mX9_back 1 := ⟨bf_mt 999 (by decide +kernel), bf_ini_X9, by decide +kernel, ⟨by decide +kernel, by decide +kernel, by decide +kernel⟩, by decide⟩
theorem mv_X9_back : bf_mv mX9_back 8 1 := ⟨mo_X9_back, (RX9, TX9, 28), rfl, bf_mt 997 (by decide +kernel), bf_mt 998 (by decide +kernel)⟩
def mX9_areSo : bf_M := (yX9_areSo, cX9_areSo, 3, some .boolean)
theorem mo_X9_areSo : bf_mo mX9_areSo 0 := ⟨bf_mt 1011 (by decide +kernel), bf_ini_X9, by decide +kernel, ⟨by decide +kernel, by decide +kernel, by decide +kernel⟩, by decide⟩
theorem mv_X9_areSo : bf_mv mX9_areSo 8 0 := ⟨mo_X9_areSo, (RX9, TX9, 28), rfl, bf_mt 1010 (by decide +kernel), bf_mp (y := yX9_areSo) (n := 28) 87 (by decide +kernel)⟩
def mX9_deadsOf : bf_M := (yX9_deadsOf, cX9_deadsOf, 9, some .int)
theorem mo_X9_deadsOf : bf_mo mX9_deadsOf 2 := ⟨bf_mt 1007 (by decide +kernel), bf_ini_X9, by decide +kernel, ⟨by decide +kernel, by decide +kernel, by decide +kernel⟩, by decide⟩
theorem mv_X9_deadsOf : bf_mv mX9_deadsOf 8 2 := ⟨mo_X9_deadsOf, (RX9, TX9, 28), rfl, bf_mt 1006 (by decide +kernel), bf_mp (y := yX9_deadsOf) (n := 28) 86 (by decide +kernel)⟩
def mX9_deads : bf_M := (yX9_deads, cX9_deads, 3, some .int)
theorem mo_X9_deads : bf_mo mX9_deads 2 := ⟨bf_mt 1003 (by decide +kernel), bf_ini_X9, by decide +kernel, ⟨by decide +kernel, by decide +kernel, by decide +kernel⟩, by decide⟩
theorem mv_X9_deads : bf_mv mX9_deads 8 2 := ⟨mo_X9_deads, (RX9, TX9, 28), rfl, bf_mt 1001 (by decide +kernel), bf_mt 1002 (by decide +kernel)⟩
def mX9_kinds : bf_M := (yX9_kinds, cX9_kinds, 5, some .int)
theorem mo_X9_kinds : bf_mo mX9_kinds 1 := ⟨bf_mt 1015 (by decide +kernel), bf_ini_X9, by decide +kernel, ⟨by decide +kernel, by decide +kernel, by decide +kernel⟩, by decide⟩
theorem mv_X9_kinds : bf_mv mX9_kinds 8 1 := ⟨mo_X9_kinds, (RX9, TX9, 28), rfl, bf_mt 1013 (by decide +kernel), bf_mt 1014 (by decide +kernel)⟩
def mX9_odds : bf_M := (yX9_odds, cX9_odds, 7, some .long)
theorem mo_X9_odds : bf_mo mX9_odds 1 := ⟨bf_mt 1019 (by decide +kernel), bf_ini_X9, by decide +kernel, ⟨by decide +kernel, by decide +kernel, by decide +kernel⟩, by decide⟩
theorem mv_X9_odds : bf_mv mX9_odds 8 1 := ⟨mo_X9_odds, (RX9, TX9, 28), rfl, bf_mt 1017 (by decide +kernel), bf_mt 1018 (by decide +kernel)⟩
def mX9_noSheet : bf_M := (yX9_noSheet, cX9_noSheet, 1, some .boolean)
theorem mo_X9_noSheet : bf_mo mX9_noSheet 1 := ⟨bf_mt 758 (by decide +kernel), bf_ini_X9, by decide +kernel, ⟨by decide +kernel, by decide +kernel, by decide +kernel⟩, by decide⟩
theorem mv_X9_noSheet : bf_ms mX9_noSheet 1 := ⟨mo_X9_noSheet, bf_mt 757 (by decide +kernel)⟩
def mX9_sheet : bf_M := (yX9_sheet, cX9_sheet, 5, some .int)
theorem mo_X9_sheet : bf_mo mX9_sheet 3 := ⟨bf_mt 1030 (by decide +kernel), bf_ini_X9, by decide +kernel, ⟨by decide +kernel, by decide +kernel, by decide +kernel⟩, by decide⟩
theorem mv_X9_sheet : bf_mv mX9_sheet 8 3 := ⟨mo_X9_sheet, (RX9, TX9, 28), rfl, bf_mt 1028 (by decide +kernel), bf_mt 1029 (by decide +kernel)⟩
def mX9_lose : bf_M := (yX9_lose, cX9_lose, 3, some .int)
theorem mo_X9_lose : bf_mo mX9_lose 1 := ⟨bf_mt 1034 (by decide +kernel), bf_ini_X9, by decide +kernel, ⟨by decide +kernel, by decide +kernel, by decide +kernel⟩, by decide⟩
theorem mv_X9_lose : bf_mv mX9_lose 8 1 := ⟨mo_X9_lose, (RX9, TX9, 28), rfl, bf_mt 1032 (by decide +kernel), bf_mt 1033 (by decide +kernel)⟩
def mX9_noCell : bf_M := (yX9_noCell, cX9_noCell, 3, some .int)
theorem mo_X9_noCell : bf_mo mX9_noCell 2 := ⟨bf_mt 1042 (by decide +kernel), bf_ini_X9, by decide +kernel, ⟨by decide +kernel, by decide +kernel, by decide +kernel⟩, by decide⟩
theorem mv_X9_noCell : bf_mv mX9_noCell 8 2 := ⟨mo_X9_noCell, (RX9, TX9, 28), rfl, bf_mt 1041 (by decide +kernel), bf_mp (y := yX9_noCell) (n := 28) 88 (by decide +kernel)⟩
def mX9_put : bf_M := (yX9_put, cX9_put, 4, some .int)
theorem mo_X9_put : bf_mo mX9_put 3 := ⟨bf_mt 1038 (by decide +kernel), bf_ini_X9, by decide +kernel, ⟨by decide +kernel, by decide +kernel, by decide +kernel⟩, by decide⟩
theorem mv_X9_put : bf_mv mX9_put 8 3 := ⟨mo_X9_put, (RX9, TX9, 28), rfl, bf_mt 1036 (by decide +kernel), bf_mt 1037 (by decide +kernel)⟩
def mX9_cell : bf_M := (yX9_cell, cX9_cell, 4, some .long)
theorem mo_X9_cell : bf_mo mX9_cell 3 := ⟨bf_mt 1046 (by decide +kernel), bf_ini_X9, by decide +kernel, ⟨by decide +kernel, by decide +kernel, by decide +kernel⟩, by decide⟩
theorem mv_X9_cell : bf_mv mX9_cell 8 3 := ⟨mo_X9_cell, (RX9, TX9, 28), rfl, bf_mt 1044 (by decide +kernel), bf_mt 1045 (by decide +kernel)⟩
def mX9_isBeyond : bf_M := (yX9_isBeyond, cX9_isBeyond, 4, some .boolean)
theorem mo_X9_isBeyond : bf_mo mX9_isBeyond 3 := ⟨bf_mt 778 (by decide +kernel), bf_ini_X9, by decide +kernel, ⟨by decide +kernel, by decide +kernel, by decide +kernel⟩, by decide⟩
theorem mv_X9_isBeyond : bf_ms mX9_isBeyond 3 := ⟨mo_X9_isBeyond, bf_mt 777 (by decide +kernel)⟩
def mX9_copy : bf_M := (yX9_copy, cX9_copy, 7, some .int)
theorem mo_X9_copy : bf_mo mX9_copy 5 := ⟨bf_mt 1054 (by decide +kernel), bf_ini_X9, by decide +kernel, ⟨by decide +kernel, by decide +kernel, by decide +kernel⟩, by decide⟩
theorem mv_X9_copy : bf_mv mX9_copy 8 5 := ⟨mo_X9_copy, (RX9, TX9, 28), rfl, bf_mt 1052 (by decide +kernel), bf_mt 1053 (by decide +kernel)⟩
def mX9_traced : bf_M := (yX9_traced, cX9_traced, 2, none)
theorem mo_X9_traced : bf_mo mX9_traced 1 := ⟨bf_mt 1062 (by decide +kernel), bf_ini_X9, by decide +kernel, ⟨by decide +kernel, by decide +kernel, by decide +kernel⟩, by decide⟩
theorem mv_X9_traced : bf_mv mX9_traced 8 1 := ⟨mo_X9_traced, (RX9, TX9, 28), rfl, bf_mt 1061 (by decide +kernel), bf_mp (y := yX9_traced) (n := 28) 90 (by decide +kernel)⟩
def mX9_tell : bf_M := (yX9_tell, cX9_tell, 4, some .int)
theorem mo_X9_tell : bf_mo mX9_tell 1 := ⟨bf_mt 1058 (by decide +kernel), bf_ini_X9, by decide +kernel, ⟨by decide +kernel, by decide +kernel, by decide +kernel⟩, by decide⟩
theorem mv_X9_tell : bf_mv mX9_tell 8 1 := ⟨mo_X9_tell, (RX9, TX9, 28), rfl, bf_mt 1056 (by decide +kernel), bf_mt 1057 (by decide +kernel)⟩
def mX9_hum : bf_M := (yX9_hum, cX9_hum, 2, some .int)
theorem mo_X9_hum : bf_mo mX9_hum 1 := ⟨bf_mt 1066 (by decide +kernel), bf_ini_X9, by decide +kernel, ⟨by decide +kernel, by decide +kernel, by decide +kernel⟩, by decide⟩
theorem mv_X9_hum : bf_mv mX9_hum 8 1 := ⟨mo_X9_hum, (RX9, TX9, 28), rfl, bf_mt 1064 (by decide +kernel), bf_mt 1065 (by decide +kernel)⟩
def mX9_as : bf_M := (yX9_as, cX9_as, 3, some .int)
theorem mo_X9_as : bf_mo mX9_as 2 := ⟨bf_mt 1070 (by decide +kernel), bf_ini_X9, by decide +kernel, ⟨by decide +kernel, by decide +kernel, by decide +kernel⟩, by decide⟩
theorem mv_X9_as : bf_mv mX9_as 8 2 := ⟨mo_X9_as, (RX9, TX9, 28), rfl, bf_mt 1068 (by decide +kernel), bf_mt 1069 (by decide +kernel)⟩
def mX9_trace : bf_M := (yX9_trace, cX9_trace, 1, some .int)
theorem mo_X9_trace : bf_mo mX9_trace 0 := ⟨bf_mt 1074 (by decide +kernel), bf_ini_X9, by decide +kernel, ⟨by decide +kernel, by decide +kernel, by decide +kernel⟩, by decide⟩
theorem mv_X9_trace : bf_mv mX9_trace 8 0 := ⟨mo_X9_trace, (RX9, TX9, 28), rfl, bf_mt 1072 (by decide +kernel), bf_mt 1073 (by decide +kernel)⟩
def mX9_fault : bf_M := (yX9_fault, cX9_fault, 1, some .int)
theorem mo_X9_fault : bf_mo mX9_fault 0 := ⟨bf_mt 1078 (by decide +kernel), bf_ini_X9, by decide +kernel, ⟨by decide +kernel, by decide +kernel, by decide +kernel⟩, by decide⟩
theorem mv_X9_fault : bf_mv mX9_fault 8 0 := ⟨mo_X9_fault, (RX9, TX9, 28), rfl, bf_mt 1076 (by decide +kernel), bf_mt 1077 (by decide +kernel)⟩
def mX9_many : bf_M := (yX9_many, cX9_many, 2, some .int)
theorem mo_X9_many : bf_mo mX9_many 1 := ⟨bf_mt 1082 (by decide +kernel), bf_ini_X9, by decide +kernel, ⟨by decide +kernel, by decide +kernel, by decide +kernel⟩, by decide⟩
theorem mv_X9_many : bf_mv mX9_many 8 1 := ⟨mo_X9_many, (RX9, TX9, 28), rfl, bf_mt 1080 (by decide +kernel), bf_mt 1081 (by decide +kernel)⟩
def mJ6_bitCount_0f7a4 : bf_M := (yJ6_bitCount_0f7a4, cJ6_bitCount_0f7a4, 1, some .int)
theorem mo_J6_bitCount_0f7a4 : bf_mo mJ6_bitCount_0f7a4 1 := ⟨bf_mt 359 (by decide +kernel), bf_ini_J6, by decide +kernel, ⟨by decide +kernel, by decide +kernel, by decide +kernel⟩, by decide⟩
theorem mv_J6_bitCount_0f7a4 : bf_ms mJ6_bitCount_0f7a4 1 := ⟨mo_J6_bitCount_0f7a4, bf_mt 358 (by decide +kernel)⟩
theorem fl_X0_9 : bf_fl RX0 9 0 0 := ⟨(RX0, TX0, 1), rfl, by decide, rfl, Or.inl (bf_mt 49 (by decide +kernel))⟩
theorem fl_X1_9 : bf_fl RX1 9 1 0 := ⟨(RX1, TX1, 6), rfl, by decide, rfl, Or.inl (bf_mt 152 (by decide +kernel))⟩
theorem fl_X1_15 : bf_fl RX1 15 1 1 := ⟨(RX1, TX1, 6), rfl, by decide, rfl, Or.inl (bf_mt 153 (by decide +kernel))⟩
theorem fl_X1_18 : bf_fl RX1 18 1 2 := ⟨(RX1, TX1, 6), rfl, by decide, rfl, Or.inl (bf_mt 154 (by decide +kernel))⟩
theorem fl_X1_21 : bf_fl RX1 21 1 3 := ⟨(RX1, TX1, 6), rfl, by decide, rfl, Or.inl (bf_mt 155 (by decide +kernel))⟩
theorem fl_X1_30 : bf_fl RX1 30 1 4 := ⟨(RX1, TX1, 6), rfl, by decide, rfl, Or.inl (bf_mt 156 (by decide +kernel))⟩
theorem fl_X1_49 : bf_fl RX1 49 1 5 := ⟨(RX1, TX1, 6), rfl, by decide, rfl, Or.inl (bf_mt 157 (by decide +kernel))⟩
theorem fl_X2_11 : bf_fl RX2 11 2 0 := ⟨(RX2, TX2, 5), rfl, by decide, rfl, Or.inl (bf_mt 85 (by decide +kernel))⟩
theorem fl_X2_32 : bf_fl RX2 32 2 1 := ⟨(RX2, TX2, 5), rfl, by decide, rfl, Or.inl (bf_mt 90 (by decide +kernel))⟩
theorem fl_X2_36 : bf_fl RX2 36 2 2 := ⟨(RX2, TX2, 5), rfl, by decide, rfl, Or.inl (bf_mt 95 (by decide +kernel))⟩
theorem fl_X2_39 : bf_fl RX2 39 2 3 := ⟨(RX2, TX2, 5), rfl, by decide, rfl, Or.inl (bf_mt 97 (by decide +kernel))⟩
theorem fl_X2_42 : bf_fl RX2 42 2 4 := ⟨(RX2, TX2, 5), rfl, by decide, rfl, Or.inl (bf_mt 99 (by decide +kernel))⟩
theorem fl_X2_45 : bf_fl RX2 45 3 4 := ⟨(RX3, TX3, 6), rfl, by decide, rfl, Or.inr ⟨"BarFigures", bf_mt 68 (by decide +kernel)⟩⟩
theorem fl_X2_70 : bf_fl RX2 70 3 5 := ⟨(RX3, TX3, 6), rfl, by decide, rfl, Or.inr ⟨"BarFigures", bf_mt 71 (by decide +kernel)⟩⟩
theorem fl_X2_73 : bf_fl RX2 73 3 2 := ⟨(RX3, TX3, 6), rfl, by decide, rfl, Or.inr ⟨"BarFigures", bf_mt 63 (by decide +kernel)⟩⟩
theorem fl_X3_9 : bf_fl RX3 9 3 1 := ⟨(RX3, TX3, 6), rfl, by decide, rfl, Or.inl (bf_mt 60 (by decide +kernel))⟩
theorem fl_X3_15 : bf_fl RX3 15 3 2 := ⟨(RX3, TX3, 6), rfl, by decide, rfl, Or.inl (bf_mt 61 (by decide +kernel))⟩
theorem fl_X3_18 : bf_fl RX3 18 3 0 := ⟨(RX3, TX3, 6), rfl, by decide, rfl, Or.inl (bf_mt 59 (by decide +kernel))⟩
theorem fl_X3_22 : bf_fl RX3 22 3 3 := ⟨(RX3, TX3, 6), rfl, by decide, rfl, Or.inl (bf_mt 64 (by decide +kernel))⟩
theorem fl_X3_26 : bf_fl RX3 26 3 4 := ⟨(RX3, TX3, 6), rfl, by decide, rfl, Or.inl (bf_mt 66 (by decide +kernel))⟩
theorem fl_X3_29 : bf_fl RX3 29 3 5 := ⟨(RX3, TX3, 6), rfl, by decide, rfl, Or.inl (bf_mt 69 (by decide +kernel))⟩
theorem fl_X4_9 : bf_fl RX4 9 4 0 := ⟨(RX4, TX4, 4), rfl, by decide, rfl, Or.inl (bf_mt 119 (by decide +kernel))⟩
theorem fl_X4_15 : bf_fl RX4 15 4 1 := ⟨(RX4, TX4, 4), rfl, by decide, rfl, Or.inl (bf_mt 120 (by decide +kernel))⟩
theorem fl_X4_18 : bf_fl RX4 18 4 2 := ⟨(RX4, TX4, 4), rfl, by decide, rfl, Or.inl (bf_mt 121 (by decide +kernel))⟩
theorem fl_X4_21 : bf_fl RX4 21 4 3 := ⟨(RX4, TX4, 4), rfl, by decide, rfl, Or.inl (bf_mt 122 (by decide +kernel))⟩
theorem fl_X4_25 : bf_fl RX4 25 2 1 := ⟨(RX2, TX2, 5), rfl, by decide, rfl, Or.inr ⟨"BarFigures", bf_mt 93 (by decide +kernel)⟩⟩
theorem fl_X4_32 : bf_fl RX4 32 2 0 := ⟨(RX2, TX2, 5), rfl, by decide, rfl, Or.inr ⟨"BarFigures", bf_mt 88 (by decide +kernel)⟩⟩
theorem fl_X5_9 : bf_fl RX5 9 5 0 := ⟨(RX5, TX5, 3), rfl, by decide, rfl, Or.inl (bf_mt 176 (by decide +kernel))⟩
theorem fl_X5_15 : bf_fl RX5 15 5 1 := ⟨(RX5, TX5, 3), rfl, by decide, rfl, Or.inl (bf_mt 177 (by decide +kernel))⟩
theorem fl_X5_19 : bf_fl RX5 19 5 2 := ⟨(RX5, TX5, 3), rfl, by decide, rfl, Or.inl (bf_mt 178 (by decide +kernel))⟩
theorem fl_X6_9 : bf_fl RX6 9 6 0 := ⟨(RX6, TX6, 2), rfl, by decide, rfl, Or.inl (bf_mt 139 (by decide +kernel))⟩
theorem fl_X6_15 : bf_fl RX6 15 6 1 := ⟨(RX6, TX6, 2), rfl, by decide, rfl, Or.inl (bf_mt 140 (by decide +kernel))⟩
theorem fl_X6_19 : bf_fl RX6 19 2 1 := ⟨(RX2, TX2, 5), rfl, by decide, rfl, Or.inr ⟨"BarFigures", bf_mt 91 (by decide +kernel)⟩⟩
theorem fl_X6_34 : bf_fl RX6 34 2 0 := ⟨(RX2, TX2, 5), rfl, by decide, rfl, Or.inr ⟨"BarFigures", bf_mt 86 (by decide +kernel)⟩⟩
theorem fl_X6_43 : bf_fl RX6 43 2 4 := ⟨(RX2, TX2, 5), rfl, by decide, rfl, Or.inr ⟨"BarFigures", bf_mt 100 (by decide +kernel)⟩⟩
theorem fl_X7_46 : bf_fl RX7 46 2 1 := ⟨(RX2, TX2, 5), rfl, by decide, rfl, Or.inr ⟨"BarFigures", bf_mt 94 (by decide +kernel)⟩⟩
theorem fl_X7_50 : bf_fl RX7 50 2 0 := ⟨(RX2, TX2, 5), rfl, by decide, rfl, Or.inr ⟨"BarFigures", bf_mt 89 (by decide +kernel)⟩⟩
theorem fl_X8_13 : bf_fl RX8 13 7 0 := ⟨(RX8, TX8, 7), rfl, by decide, rfl, Or.inl (bf_mt 187 (by decide +kernel))⟩
theorem fl_X8_20 : bf_fl RX8 20 7 1 := ⟨(RX8, TX8, 7), rfl, by decide, rfl, Or.inl (bf_mt 188 (by decide +kernel))⟩
theorem fl_X8_27 : bf_fl RX8 27 7 2 := ⟨(RX8, TX8, 7), rfl, by decide, rfl, Or.inl (bf_mt 189 (by decide +kernel))⟩
theorem fl_X8_34 : bf_fl RX8 34 7 3 := ⟨(RX8, TX8, 7), rfl, by decide, rfl, Or.inl (bf_mt 190 (by decide +kernel))⟩
theorem fl_X8_41 : bf_fl RX8 41 7 4 := ⟨(RX8, TX8, 7), rfl, by decide, rfl, Or.inl (bf_mt 191 (by decide +kernel))⟩
theorem fl_X8_46 : bf_fl RX8 46 7 5 := ⟨(RX8, TX8, 7), rfl, by decide, rfl, Or.inl (bf_mt 192 (by decide +kernel))⟩
theorem fl_X8_72 : bf_fl RX8 72 4 3 := ⟨(RX4, TX4, 4), rfl, by decide, rfl, Or.inr ⟨"BarFigures", bf_mt 123 (by decide +kernel)⟩⟩
theorem fl_X8_75 : bf_fl RX8 75 2 1 := ⟨(RX2, TX2, 5), rfl, by decide, rfl, Or.inr ⟨"BarFigures", bf_mt 92 (by decide +kernel)⟩⟩
theorem fl_X8_80 : bf_fl RX8 80 2 0 := ⟨(RX2, TX2, 5), rfl, by decide, rfl, Or.inr ⟨"BarFigures", bf_mt 87 (by decide +kernel)⟩⟩
theorem fl_X8_84 : bf_fl RX8 84 3 3 := ⟨(RX3, TX3, 6), rfl, by decide, rfl, Or.inr ⟨"BarFigures", bf_mt 65 (by decide +kernel)⟩⟩
theorem fl_X8_89 : bf_fl RX8 89 3 4 := ⟨(RX3, TX3, 6), rfl, by decide, rfl, Or.inr ⟨"BarFigures", bf_mt 67 (by decide +kernel)⟩⟩
theorem fl_X8_92 : bf_fl RX8 92 3 5 := ⟨(RX3, TX3, 6), rfl, by decide, rfl, Or.inr ⟨"BarFigures", bf_mt 70 (by decide +kernel)⟩⟩
theorem fl_X8_99 : bf_fl RX8 99 2 3 := ⟨(RX2, TX2, 5), rfl, by decide, rfl, Or.inr ⟨"BarFigures", bf_mt 98 (by decide +kernel)⟩⟩
theorem fl_X8_109 : bf_fl RX8 109 3 2 := ⟨(RX3, TX3, 6), rfl, by decide, rfl, Or.inr ⟨"BarFigures", bf_mt 62 (by decide +kernel)⟩⟩
theorem fl_X8_200 : bf_fl RX8 200 2 4 := ⟨(RX2, TX2, 5), rfl, by decide, rfl, Or.inr ⟨"BarFigures", bf_mt 101 (by decide +kernel)⟩⟩
theorem fl_X8_226 : bf_fl RX8 226 5 2 := ⟨(RX5, TX5, 3), rfl, by decide, rfl, Or.inr ⟨"BarFigures", bf_mt 179 (by decide +kernel)⟩⟩
theorem fl_X8_247 : bf_fl RX8 247 7 6 := ⟨(RX8, TX8, 7), rfl, by decide, rfl, Or.inl (bf_mt 193 (by decide +kernel))⟩
theorem fl_X8_250 : bf_fl RX8 250 2 2 := ⟨(RX2, TX2, 5), rfl, by decide, rfl, Or.inr ⟨"BarFigures", bf_mt 96 (by decide +kernel)⟩⟩
theorem fl_X9_7 : bf_fl RX9 7 8 4 := ⟨(RX9, TX9, 28), rfl, by decide, rfl, Or.inl (bf_mt 671 (by decide +kernel))⟩
theorem fl_X9_13 : bf_fl RX9 13 8 5 := ⟨(RX9, TX9, 28), rfl, by decide, rfl, Or.inl (bf_mt 672 (by decide +kernel))⟩
theorem fl_X9_16 : bf_fl RX9 16 8 6 := ⟨(RX9, TX9, 28), rfl, by decide, rfl, Or.inl (bf_mt 673 (by decide +kernel))⟩
theorem fl_X9_19 : bf_fl RX9 19 8 7 := ⟨(RX9, TX9, 28), rfl, by decide, rfl, Or.inl (bf_mt 674 (by decide +kernel))⟩
theorem fl_X9_22 : bf_fl RX9 22 8 10 := ⟨(RX9, TX9, 28), rfl, by decide, rfl, Or.inl (bf_mt 677 (by decide +kernel))⟩
theorem fl_X9_25 : bf_fl RX9 25 8 11 := ⟨(RX9, TX9, 28), rfl, by decide, rfl, Or.inl (bf_mt 678 (by decide +kernel))⟩
theorem fl_X9_28 : bf_fl RX9 28 8 12 := ⟨(RX9, TX9, 28), rfl, by decide, rfl, Or.inl (bf_mt 679 (by decide +kernel))⟩
theorem fl_X9_31 : bf_fl RX9 31 8 14 := ⟨(RX9, TX9, 28), rfl, by decide, rfl, Or.inl (bf_mt 681 (by decide +kernel))⟩
theorem fl_X9_34 : bf_fl RX9 34 8 15 := ⟨(RX9, TX9, 28), rfl, by decide, rfl, Or.inl (bf_mt 682 (by decide +kernel))⟩
theorem fl_X9_37 : bf_fl RX9 37 8 16 := ⟨(RX9, TX9, 28), rfl, by decide, rfl, Or.inl (bf_mt 683 (by decide +kernel))⟩
theorem fl_X9_40 : bf_fl RX9 40 8 17 := ⟨(RX9, TX9, 28), rfl, by decide, rfl, Or.inl (bf_mt 684 (by decide +kernel))⟩
theorem fl_X9_43 : bf_fl RX9 43 8 18 := ⟨(RX9, TX9, 28), rfl, by decide, rfl, Or.inl (bf_mt 685 (by decide +kernel))⟩
theorem fl_X9_46 : bf_fl RX9 46 8 20 := ⟨(RX9, TX9, 28), rfl, by decide, rfl, Or.inl (bf_mt 687 (by decide +kernel))⟩
theorem fl_X9_49 : bf_fl RX9 49 8 21 := ⟨(RX9, TX9, 28), rfl, by decide, rfl, Or.inl (bf_mt 688 (by decide +kernel))⟩
theorem fl_X9_52 : bf_fl RX9 52 8 22 := ⟨(RX9, TX9, 28), rfl, by decide, rfl, Or.inl (bf_mt 689 (by decide +kernel))⟩
theorem fl_X9_55 : bf_fl RX9 55 8 23 := ⟨(RX9, TX9, 28), rfl, by decide, rfl, Or.inl (bf_mt 690 (by decide +kernel))⟩
theorem fl_X9_58 : bf_fl RX9 58 8 24 := ⟨(RX9, TX9, 28), rfl, by decide, rfl, Or.inl (bf_mt 691 (by decide +kernel))⟩
theorem fl_X9_61 : bf_fl RX9 61 8 25 := ⟨(RX9, TX9, 28), rfl, by decide, rfl, Or.inl (bf_mt 692 (by decide +kernel))⟩
theorem fl_X9_64 : bf_fl RX9 64 8 26 := ⟨(RX9, TX9, 28), rfl, by decide, rfl, Or.inl (bf_mt 693 (by decide +kernel))⟩
theorem fl_X9_69 : bf_fl RX9 69 8 0 := ⟨(RX9, TX9, 28), rfl, by decide, rfl, Or.inl (bf_mt 667 (by decide +kernel))⟩
theorem fl_X9_77 : bf_fl RX9 77 8 1 := ⟨(RX9, TX9, 28), rfl, by decide, rfl, Or.inl (bf_mt 668 (by decide +kernel))⟩
theorem fl_X9_84 : bf_fl RX9 84 8 8 := ⟨(RX9, TX9, 28), rfl, by decide, rfl, Or.inl (bf_mt 675 (by decide +kernel))⟩
theorem fl_X9_95 : bf_fl RX9 95 8 9 := ⟨(RX9, TX9, 28), rfl, by decide, rfl, Or.inl (bf_mt 676 (by decide +kernel))⟩
theorem fl_X9_129 : bf_fl RX9 129 8 2 := ⟨(RX9, TX9, 28), rfl, by decide, rfl, Or.inl (bf_mt 669 (by decide +kernel))⟩
theorem fl_X9_132 : bf_fl RX9 132 8 3 := ⟨(RX9, TX9, 28), rfl, by decide, rfl, Or.inl (bf_mt 670 (by decide +kernel))⟩
theorem fl_X9_135 : bf_fl RX9 135 8 19 := ⟨(RX9, TX9, 28), rfl, by decide, rfl, Or.inl (bf_mt 686 (by decide +kernel))⟩
theorem fl_X9_196 : bf_fl RX9 196 8 13 := ⟨(RX9, TX9, 28), rfl, by decide, rfl, Or.inl (bf_mt 680 (by decide +kernel))⟩
theorem fl_X9_269 : bf_fl RX9 269 8 27 := ⟨(RX9, TX9, 28), rfl, by decide, rfl, Or.inl (bf_mt 694 (by decide +kernel))⟩
theorem ff_X0_9 : bf_ff RX0 9 0 0 := ⟨(RX0, TX0, 1), rfl, by decide, rfl, rfl, rfl, ⟨tyX0 0, tyX0_ok 0 (by decide), rfl⟩, bf_mt 49 (by decide +kernel)⟩
theorem ff_X1_9 : bf_ff RX1 9 1 0 := ⟨(RX1, TX1, 6), rfl, by decide, rfl, rfl, rfl, ⟨tyX1 0, tyX1_ok 0 (by decide), rfl⟩, bf_mt 152 (by decide +kernel)⟩
theorem ff_X1_15 : bf_ff RX1 15 1 1 := ⟨(RX1, TX1, 6), rfl, by decide, rfl, rfl, rfl, ⟨tyX1 1, tyX1_ok 1 (by decide), rfl⟩, bf_mt 153 (by decide +kernel)⟩
theorem ff_X1_18 : bf_ff RX1 18 1 2 := ⟨(RX1, TX1, 6), rfl, by decide, rfl, rfl, rfl, ⟨tyX1 2, tyX1_ok 2 (by decide), rfl⟩, bf_mt 154 (by decide +kernel)⟩
theorem ff_X1_21 : bf_ff RX1 21 1 3 := ⟨(RX1, TX1, 6), rfl, by decide, rfl, rfl, rfl, ⟨tyX1 3, tyX1_ok 3 (by decide), rfl⟩, bf_mt 155 (by decide +kernel)⟩
theorem fp_X1_30 : bf_fp RX1 30 1 4 := ⟨(RX1, TX1, 6), rfl, by decide, rfl, rfl, rfl, Or.inl (bf_mt 156 (by decide +kernel))⟩
theorem fp_X1_49 : bf_fp RX1 49 1 5 := ⟨(RX1, TX1, 6), rfl, by decide, rfl, rfl, rfl, Or.inl (bf_mt 157 (by decide +kernel))⟩
theorem ff_X2_11 : bf_ff RX2 11 2 0 := ⟨(RX2, TX2, 5), rfl, by decide, rfl, rfl, rfl, ⟨tyX2 0, tyX2_ok 0 (by decide), rfl⟩, bf_mt 85 (by decide +kernel)⟩
theorem fp_X2_32 : bf_fp RX2 32 2 1 := ⟨(RX2, TX2, 5), rfl, by decide, rfl, rfl, rfl, Or.inl (bf_mt 90 (by decide +kernel))⟩
theorem fp_X2_36 : bf_fp RX2 36 2 2 := ⟨(RX2, TX2, 5), rfl, by decide, rfl, rfl, rfl, Or.inl (bf_mt 95 (by decide +kernel))⟩
theorem fp_X2_39 : bf_fp RX2 39 2 3 := ⟨(RX2, TX2, 5), rfl, by decide, rfl, rfl, rfl, Or.inl (bf_mt 97 (by decide +kernel))⟩
theorem fp_X2_42 : bf_fp RX2 42 2 4 := ⟨(RX2, TX2, 5), rfl, by decide, rfl, rfl, rfl, Or.inl (bf_mt 99 (by decide +kernel))⟩
theorem ff_X3_9 : bf_ff RX3 9 3 1 := ⟨(RX3, TX3, 6), rfl, by decide, rfl, rfl, rfl, ⟨tyX3 1, tyX3_ok 1 (by decide), rfl⟩, bf_mt 60 (by decide +kernel)⟩
theorem ff_X3_15 : bf_ff RX3 15 3 2 := ⟨(RX3, TX3, 6), rfl, by decide, rfl, rfl, rfl, ⟨tyX3 2, tyX3_ok 2 (by decide), rfl⟩, bf_mt 61 (by decide +kernel)⟩
theorem ff_X3_18 : bf_ff RX3 18 3 0 := ⟨(RX3, TX3, 6), rfl, by decide, rfl, rfl, rfl, ⟨tyX3 0, tyX3_ok 0 (by decide), rfl⟩, bf_mt 59 (by decide +kernel)⟩
theorem fp_X3_22 : bf_fp RX3 22 3 3 := ⟨(RX3, TX3, 6), rfl, by decide, rfl, rfl, rfl, Or.inl (bf_mt 64 (by decide +kernel))⟩
theorem fp_X3_26 : bf_fp RX3 26 3 4 := ⟨(RX3, TX3, 6), rfl, by decide, rfl, rfl, rfl, Or.inl (bf_mt 66 (by decide +kernel))⟩
theorem fp_X3_29 : bf_fp RX3 29 3 5 := ⟨(RX3, TX3, 6), rfl, by decide, rfl, rfl, rfl, Or.inl (bf_mt 69 (by decide +kernel))⟩
theorem ff_X4_9 : bf_ff RX4 9 4 0 := ⟨(RX4, TX4, 4), rfl, by decide, rfl, rfl, rfl, ⟨tyX4 0, tyX4_ok 0 (by decide), rfl⟩, bf_mt 119 (by decide +kernel)⟩
theorem ff_X4_15 : bf_ff RX4 15 4 1 := ⟨(RX4, TX4, 4), rfl, by decide, rfl, rfl, rfl, ⟨tyX4 1, tyX4_ok 1 (by decide), rfl⟩, bf_mt 120 (by decide +kernel)⟩
theorem ff_X4_18 : bf_ff RX4 18 4 2 := ⟨(RX4, TX4, 4), rfl, by decide, rfl, rfl, rfl, ⟨tyX4 2, tyX4_ok 2 (by decide), rfl⟩, bf_mt 121 (by decide +kernel)⟩
theorem fp_X4_21 : bf_fp RX4 21 4 3 := ⟨(RX4, TX4, 4), rfl, by decide, rfl, rfl, rfl, Or.inl (bf_mt 122 (by decide +kernel))⟩
theorem ff_X5_9 : bf_ff RX5 9 5 0 := ⟨(RX5, TX5, 3), rfl, by decide, rfl, rfl, rfl, ⟨tyX5 0, tyX5_ok 0 (by decide), rfl⟩, bf_mt 176 (by decide +kernel)⟩
theorem fp_X5_15 : bf_fp RX5 15 5 1 := ⟨(RX5, TX5, 3), rfl, by decide, rfl, rfl, rfl, Or.inl (bf_mt 177 (by decide +kernel))⟩
theorem fp_X5_19 : bf_fp RX5 19 5 2 := ⟨(RX5, TX5, 3), rfl, by decide, rfl, rfl, rfl, Or.inl (bf_mt 178 (by decide +kernel))⟩
theorem ff_X6_9 : bf_ff RX6 9 6 0 := ⟨(RX6, TX6, 2), rfl, by decide, rfl, rfl, rfl, ⟨tyX6 0, tyX6_ok 0 (by decide), rfl⟩, bf_mt 139 (by decide +kernel)⟩
theorem fp_X6_15 : bf_fp RX6 15 6 1 := ⟨(RX6, TX6, 2), rfl, by decide, rfl, rfl, rfl, Or.inl (bf_mt 140 (by decide +kernel))⟩
theorem ff_X8_13 : bf_ff RX8 13 7 0 := ⟨(RX8, TX8, 7), rfl, by decide, rfl, rfl, rfl, ⟨tyX8 0, tyX8_ok 0 (by decide), rfl⟩, bf_mt 187 (by decide +kernel)⟩
theorem ff_X8_20 : bf_ff RX8 20 7 1 := ⟨(RX8, TX8, 7), rfl, by decide, rfl, rfl, rfl, ⟨tyX8 1, tyX8_ok 1 (by decide), rfl⟩, bf_mt 188 (by decide +kernel)⟩
theorem ff_X8_27 : bf_ff RX8 27 7 2 := ⟨(RX8, TX8, 7), rfl, by decide, rfl, rfl, rfl, ⟨tyX8 2, tyX8_ok 2 (by decide), rfl⟩, bf_mt 189 (by decide +kernel)⟩
theorem ff_X8_34 : bf_ff RX8 34 7 3 := ⟨(RX8, TX8, 7), rfl, by decide, rfl, rfl, rfl, ⟨tyX8 3, tyX8_ok 3 (by decide), rfl⟩, bf_mt 190 (by decide +kernel)⟩
theorem ff_X8_41 : bf_ff RX8 41 7 4 := ⟨(RX8, TX8, 7), rfl, by decide, rfl, rfl, rfl, ⟨tyX8 4, tyX8_ok 4 (by decide), rfl⟩, bf_mt 191 (by decide +kernel)⟩
theorem fp_X8_46 : bf_fp RX8 46 7 5 := ⟨(RX8, TX8, 7), rfl, by decide, rfl, rfl, rfl, Or.inl (bf_mt 192 (by decide +kernel))⟩
theorem fp_X8_72 : bf_fp RX8 72 4 3 := ⟨(RX4, TX4, 4), rfl, by decide, rfl, rfl, rfl, Or.inr ⟨"BarFigures", bf_mt 123 (by decide +kernel)⟩⟩
theorem fp_X8_247 : bf_fp RX8 247 7 6 := ⟨(RX8, TX8, 7), rfl, by decide, rfl, rfl, rfl, Or.inl (bf_mt 193 (by decide +kernel))⟩
theorem ff_X9_7 : bf_ff RX9 7 8 4 := ⟨(RX9, TX9, 28), rfl, by decide, rfl, rfl, rfl, ⟨tyX9 4, tyX9_ok 4 (by decide), rfl⟩, bf_mt 671 (by decide +kernel)⟩
theorem ff_X9_13 : bf_ff RX9 13 8 5 := ⟨(RX9, TX9, 28), rfl, by decide, rfl, rfl, rfl, ⟨tyX9 5, tyX9_ok 5 (by decide), rfl⟩, bf_mt 672 (by decide +kernel)⟩
theorem ff_X9_16 : bf_ff RX9 16 8 6 := ⟨(RX9, TX9, 28), rfl, by decide, rfl, rfl, rfl, ⟨tyX9 6, tyX9_ok 6 (by decide), rfl⟩, bf_mt 673 (by decide +kernel)⟩
theorem ff_X9_19 : bf_ff RX9 19 8 7 := ⟨(RX9, TX9, 28), rfl, by decide, rfl, rfl, rfl, ⟨tyX9 7, tyX9_ok 7 (by decide), rfl⟩, bf_mt 674 (by decide +kernel)⟩
theorem ff_X9_22 : bf_ff RX9 22 8 10 := ⟨(RX9, TX9, 28), rfl, by decide, rfl, rfl, rfl, ⟨tyX9 10, tyX9_ok 10 (by decide), rfl⟩, bf_mt 677 (by decide +kernel)⟩
theorem ff_X9_25 : bf_ff RX9 25 8 11 := ⟨(RX9, TX9, 28), rfl, by decide, rfl, rfl, rfl, ⟨tyX9 11, tyX9_ok 11 (by decide), rfl⟩, bf_mt 678 (by decide +kernel)⟩
theorem ff_X9_28 : bf_ff RX9 28 8 12 := ⟨(RX9, TX9, 28), rfl, by decide, rfl, rfl, rfl, ⟨tyX9 12, tyX9_ok 12 (by decide), rfl⟩, bf_mt 679 (by decide +kernel)⟩
theorem ff_X9_31 : bf_ff RX9 31 8 14 := ⟨(RX9, TX9, 28), rfl, by decide, rfl, rfl, rfl, ⟨tyX9 14, tyX9_ok 14 (by decide), rfl⟩, bf_mt 681 (by decide +kernel)⟩
theorem ff_X9_34 : bf_ff RX9 34 8 15 := ⟨(RX9, TX9, 28), rfl, by decide, rfl, rfl, rfl, ⟨tyX9 15, tyX9_ok 15 (by decide), rfl⟩, bf_mt 682 (by decide +kernel)⟩
theorem ff_X9_37 : bf_ff RX9 37 8 16 := ⟨(RX9, TX9, 28), rfl, by decide, rfl, rfl, rfl, ⟨tyX9 16, tyX9_ok 16 (by decide), rfl⟩, bf_mt 683 (by decide +kernel)⟩
theorem ff_X9_40 : bf_ff RX9 40 8 17 := ⟨(RX9, TX9, 28), rfl, by decide, rfl, rfl, rfl, ⟨tyX9 17, tyX9_ok 17 (by decide), rfl⟩, bf_mt 684 (by decide +kernel)⟩
theorem ff_X9_43 : bf_ff RX9 43 8 18 := ⟨(RX9, TX9, 28), rfl, by decide, rfl, rfl, rfl, ⟨tyX9 18, tyX9_ok 18 (by decide), rfl⟩, bf_mt 685 (by decide +kernel)⟩
theorem ff_X9_46 : bf_ff RX9 46 8 20 := ⟨(RX9, TX9, 28), rfl, by decide, rfl, rfl, rfl, ⟨tyX9 20, tyX9_ok 20 (by decide), rfl⟩, bf_mt 687 (by decide +kernel)⟩
theorem ff_X9_49 : bf_ff RX9 49 8 21 := ⟨(RX9, TX9, 28), rfl, by decide, rfl, rfl, rfl, ⟨tyX9 21, tyX9_ok 21 (by decide), rfl⟩, bf_mt 688 (by decide +kernel)⟩
theorem ff_X9_52 : bf_ff RX9 52 8 22 := ⟨(RX9, TX9, 28), rfl, by decide, rfl, rfl, rfl, ⟨tyX9 22, tyX9_ok 22 (by decide), rfl⟩, bf_mt 689 (by decide +kernel)⟩
theorem ff_X9_55 : bf_ff RX9 55 8 23 := ⟨(RX9, TX9, 28), rfl, by decide, rfl, rfl, rfl, ⟨tyX9 23, tyX9_ok 23 (by decide), rfl⟩, bf_mt 690 (by decide +kernel)⟩
theorem ff_X9_58 : bf_ff RX9 58 8 24 := ⟨(RX9, TX9, 28), rfl, by decide, rfl, rfl, rfl, ⟨tyX9 24, tyX9_ok 24 (by decide), rfl⟩, bf_mt 691 (by decide +kernel)⟩
theorem ff_X9_61 : bf_ff RX9 61 8 25 := ⟨(RX9, TX9, 28), rfl, by decide, rfl, rfl, rfl, ⟨tyX9 25, tyX9_ok 25 (by decide), rfl⟩, bf_mt 692 (by decide +kernel)⟩
theorem ff_X9_64 : bf_ff RX9 64 8 26 := ⟨(RX9, TX9, 28), rfl, by decide, rfl, rfl, rfl, ⟨tyX9 26, tyX9_ok 26 (by decide), rfl⟩, bf_mt 693 (by decide +kernel)⟩
theorem fp_X9_69 : bf_fp RX9 69 8 0 := ⟨(RX9, TX9, 28), rfl, by decide, rfl, rfl, rfl, Or.inl (bf_mt 667 (by decide +kernel))⟩
theorem fp_X9_77 : bf_fp RX9 77 8 1 := ⟨(RX9, TX9, 28), rfl, by decide, rfl, rfl, rfl, Or.inl (bf_mt 668 (by decide +kernel))⟩
theorem fp_X9_84 : bf_fp RX9 84 8 8 := ⟨(RX9, TX9, 28), rfl, by decide, rfl, rfl, rfl, Or.inl (bf_mt 675 (by decide +kernel))⟩
theorem fp_X9_95 : bf_fp RX9 95 8 9 := ⟨(RX9, TX9, 28), rfl, by decide, rfl, rfl, rfl, Or.inl (bf_mt 676 (by decide +kernel))⟩
theorem fp_X9_129 : bf_fp RX9 129 8 2 := ⟨(RX9, TX9, 28), rfl, by decide, rfl, rfl, rfl, Or.inl (bf_mt 669 (by decide +kernel))⟩
theorem fp_X9_132 : bf_fp RX9 132 8 3 := ⟨(RX9, TX9, 28), rfl, by decide, rfl, rfl, rfl, Or.inl (bf_mt 670 (by decide +kernel))⟩
theorem fp_X9_135 : bf_fp RX9 135 8 19 := ⟨(RX9, TX9, 28), rfl, by decide, rfl, rfl, rfl, Or.inl (bf_mt 686 (by decide +kernel))⟩
theorem fp_X9_196 : bf_fp RX9 196 8 13 := ⟨(RX9, TX9, 28), rfl, by decide, rfl, rfl, rfl, Or.inl (bf_mt 680 (by decide +kernel))⟩
theorem fp_X9_269 : bf_fp RX9 269 8 27 := ⟨(RX9, TX9, 28), rfl, by decide, rfl, rfl, rfl, Or.inl (bf_mt 694 (by decide +kernel))⟩
theorem li_L_9 : bf_li RL 9 yX8_init := Or.inl (bf_mt 16 (by decide +kernel))
theorem li_L_12 : bf_li RL 12 yX9_init := Or.inl (bf_mt 663 (by decide +kernel))
theorem li_L_13 : bf_li RL 13 yX8_panel := Or.inl (bf_mt 209 (by decide +kernel))
theorem li_L_17 : bf_li RL 17 yX9_panel := Or.inl (bf_mt 752 (by decide +kernel))
theorem li_L_18 : bf_li RL 18 yX8_ofPlace := Or.inl (bf_mt 285 (by decide +kernel))
theorem li_L_22 : bf_li RL 22 yX9_ofPlace := Or.inl (bf_mt 799 (by decide +kernel))
theorem li_L_23 : bf_li RL 23 yX8_wear := Or.inl (bf_mt 310 (by decide +kernel))
theorem li_L_26 : bf_li RL 26 yX9_wear := Or.inl (bf_mt 838 (by decide +kernel))
theorem li_L_27 : bf_li RL 27 yX8_kill := Or.inl (bf_mt 314 (by decide +kernel))
theorem li_L_30 : bf_li RL 30 yX9_kill := Or.inl (bf_mt 843 (by decide +kernel))
theorem li_L_31 : bf_li RL 31 yX8_jam := Or.inl (bf_mt 322 (by decide +kernel))
theorem li_L_34 : bf_li RL 34 yX9_jam := Or.inl (bf_mt 851 (by decide +kernel))
theorem li_L_35 : bf_li RL 35 yX8_burns := Or.inl (bf_mt 330 (by decide +kernel))
theorem li_L_38 : bf_li RL 38 yX9_burns := Or.inl (bf_mt 855 (by decide +kernel))
theorem li_L_39 : bf_li RL 39 yX8_digits := Or.inl (bf_mt 334 (by decide +kernel))
theorem li_L_42 : bf_li RL 42 yX9_digits := Or.inl (bf_mt 860 (by decide +kernel))
theorem li_L_43 : bf_li RL 43 yX8_bars := Or.inl (bf_mt 339 (by decide +kernel))
theorem li_L_47 : bf_li RL 47 yX9_bars := Or.inl (bf_mt 868 (by decide +kernel))
theorem li_L_48 : bf_li RL 48 yX8_alike := Or.inl (bf_mt 363 (by decide +kernel))
theorem li_L_51 : bf_li RL 51 yX9_alike := Or.inl (bf_mt 883 (by decide +kernel))
theorem li_L_52 : bf_li RL 52 yX8_which := Or.inl (bf_mt 376 (by decide +kernel))
theorem li_L_55 : bf_li RL 55 yX9_which := Or.inl (bf_mt 887 (by decide +kernel))
theorem li_L_56 : bf_li RL 56 yX8_flips := Or.inl (bf_mt 387 (by decide +kernel))
theorem li_L_59 : bf_li RL 59 yX9_flips := Or.inl (bf_mt 896 (by decide +kernel))
theorem li_L_60 : bf_li RL 60 yX8_counting := Or.inl (bf_mt 395 (by decide +kernel))
theorem li_L_64 : bf_li RL 64 yX9_counting := Or.inl (bf_mt 900 (by decide +kernel))
theorem li_L_65 : bf_li RL 65 yX8_near := Or.inl (bf_mt 410 (by decide +kernel))
theorem li_L_68 : bf_li RL 68 yX9_near := Or.inl (bf_mt 904 (by decide +kernel))
theorem li_L_69 : bf_li RL 69 yX8_pictures := Or.inl (bf_mt 424 (by decide +kernel))
theorem li_L_73 : bf_li RL 73 yX9_pictures := Or.inl (bf_mt 908 (by decide +kernel))
theorem li_L_74 : bf_li RL 74 yX8_go := Or.inl (bf_mt 433 (by decide +kernel))
theorem li_L_77 : bf_li RL 77 yX9_go := Or.inl (bf_mt 912 (by decide +kernel))
theorem li_L_78 : bf_li RL 78 yX8_dies := Or.inl (bf_mt 450 (by decide +kernel))
theorem li_L_81 : bf_li RL 81 yX9_dies := Or.inl (bf_mt 929 (by decide +kernel))
theorem li_L_82 : bf_li RL 82 yX8_first := Or.inl (bf_mt 458 (by decide +kernel))
theorem li_L_85 : bf_li RL 85 yX9_first := Or.inl (bf_mt 945 (by decide +kernel))
theorem li_L_86 : bf_li RL 86 yX8_seen := Or.inl (bf_mt 462 (by decide +kernel))
theorem li_L_90 : bf_li RL 90 yX9_seen := Or.inl (bf_mt 953 (by decide +kernel))
theorem li_L_91 : bf_li RL 91 yX8_repair := Or.inl (bf_mt 486 (by decide +kernel))
theorem li_L_94 : bf_li RL 94 yX9_repair := Or.inl (bf_mt 967 (by decide +kernel))
theorem li_L_95 : bf_li RL 95 yX8_order := Or.inl (bf_mt 499 (by decide +kernel))
theorem li_L_99 : bf_li RL 99 yX9_order := Or.inl (bf_mt 971 (by decide +kernel))
theorem li_L_100 : bf_li RL 100 yX8_reading := Or.inl (bf_mt 534 (by decide +kernel))
theorem li_L_103 : bf_li RL 103 yX9_reading := Or.inl (bf_mt 992 (by decide +kernel))
theorem li_L_104 : bf_li RL 104 yX8_back := Or.inl (bf_mt 542 (by decide +kernel))
theorem li_L_107 : bf_li RL 107 yX9_back := Or.inl (bf_mt 996 (by decide +kernel))
theorem li_L_108 : bf_li RL 108 yX8_deads := Or.inl (bf_mt 546 (by decide +kernel))
theorem li_L_111 : bf_li RL 111 yX9_deads := Or.inl (bf_mt 1000 (by decide +kernel))
theorem li_L_112 : bf_li RL 112 yX8_kinds := Or.inl (bf_mt 557 (by decide +kernel))
theorem li_L_115 : bf_li RL 115 yX9_kinds := Or.inl (bf_mt 1012 (by decide +kernel))
theorem li_L_116 : bf_li RL 116 yX8_odds := Or.inl (bf_mt 561 (by decide +kernel))
theorem li_L_120 : bf_li RL 120 yX9_odds := Or.inl (bf_mt 1016 (by decide +kernel))
theorem li_L_121 : bf_li RL 121 yX8_sheet := Or.inl (bf_mt 577 (by decide +kernel))
theorem li_L_124 : bf_li RL 124 yX9_sheet := Or.inl (bf_mt 1027 (by decide +kernel))
theorem li_L_125 : bf_li RL 125 yX8_lose := Or.inl (bf_mt 585 (by decide +kernel))
theorem li_L_128 : bf_li RL 128 yX9_lose := Or.inl (bf_mt 1031 (by decide +kernel))
theorem li_L_129 : bf_li RL 129 yX8_put := Or.inl (bf_mt 593 (by decide +kernel))
theorem li_L_132 : bf_li RL 132 yX9_put := Or.inl (bf_mt 1035 (by decide +kernel))
theorem li_L_133 : bf_li RL 133 yX8_cell := Or.inl (bf_mt 603 (by decide +kernel))
theorem li_L_137 : bf_li RL 137 yX9_cell := Or.inl (bf_mt 1043 (by decide +kernel))
theorem li_L_138 : bf_li RL 138 yX8_copy := Or.inl (bf_mt 608 (by decide +kernel))
theorem li_L_141 : bf_li RL 141 yX9_copy := Or.inl (bf_mt 1051 (by decide +kernel))
theorem li_L_142 : bf_li RL 142 yX8_tell := Or.inl (bf_mt 617 (by decide +kernel))
theorem li_L_145 : bf_li RL 145 yX9_tell := Or.inl (bf_mt 1055 (by decide +kernel))
theorem li_L_146 : bf_li RL 146 yX8_hum := Or.inl (bf_mt 637 (by decide +kernel))
theorem li_L_149 : bf_li RL 149 yX9_hum := Or.inl (bf_mt 1063 (by decide +kernel))
theorem li_L_150 : bf_li RL 150 yX8_as := Or.inl (bf_mt 641 (by decide +kernel))
theorem li_L_153 : bf_li RL 153 yX9_as := Or.inl (bf_mt 1067 (by decide +kernel))
theorem li_L_154 : bf_li RL 154 yX8_trace := Or.inl (bf_mt 645 (by decide +kernel))
theorem li_L_157 : bf_li RL 157 yX9_trace := Or.inl (bf_mt 1071 (by decide +kernel))
theorem li_L_158 : bf_li RL 158 yX8_fault := Or.inl (bf_mt 649 (by decide +kernel))
theorem li_L_161 : bf_li RL 161 yX9_fault := Or.inl (bf_mt 1075 (by decide +kernel))
theorem li_L_162 : bf_li RL 162 yX8_many := Or.inl (bf_mt 653 (by decide +kernel))
theorem li_L_165 : bf_li RL 165 yX9_many := Or.inl (bf_mt 1079 (by decide +kernel))
theorem lw_X0_3 : Cond.methodLink RX0 3 objectInit ∈ lw_tbl := bf_mt 37 (by decide +kernel)
theorem li_X0_18 : bf_li RX0 18 yX0_leftRight := Or.inl (bf_mt 40 (by decide +kernel))
theorem li_X0_22 : bf_li RX0 22 yX0_topBottom := Or.inl (bf_mt 46 (by decide +kernel))
theorem li_X0_25 : bf_li RX0 25 yX8_isWithin := Or.inr ⟨"BarFigures", bf_mt 284 (by decide +kernel)⟩
theorem li_X0_29 : bf_li RX0 29 yX0_exchanged := Or.inl (bf_mt 43 (by decide +kernel))
theorem lw_X1_3 : Cond.methodLink RX1 3 objectInit ∈ lw_tbl := bf_mt 151 (by decide +kernel)
theorem lw_X1_24 : Cond.methodLink RX1 24 Lib.Math.min.name ∈ lw_tbl := bf_mt 510 (by decide +kernel)
theorem li_X1_34 : bf_li RX1 34 yX5_read := Or.inr ⟨"BarFigures", bf_mt 511 (by decide +kernel)⟩
theorem li_X1_40 : bf_li RX1 40 yX2_isNumber := Or.inr ⟨"BarFigures", bf_mt 512 (by decide +kernel)⟩
theorem li_X1_46 : bf_li RX1 46 yX2_flipsBetween := Or.inr ⟨"BarFigures", bf_mt 513 (by decide +kernel)⟩
theorem li_X1_52 : bf_li RX1 52 yX1_extend := Or.inl (bf_mt 518 (by decide +kernel))
theorem lw_X1_56 : Cond.methodLink RX1 56 arraycopyName ∈ lw_tbl := bf_mt 522 (by decide +kernel)
theorem li_X1_62 : bf_li RX1 62 yX8_isWithin := Or.inr ⟨"BarFigures", bf_mt 533 (by decide +kernel)⟩
theorem lw_X2_3 : Cond.methodLink RX2 3 objectInit ∈ lw_tbl := bf_mt 29 (by decide +kernel)
theorem li_X2_19 : bf_li RX2 19 yX0_init := Or.inr ⟨"BarFigures", bf_mt 34 (by decide +kernel)⟩
theorem li_X2_20 : bf_li RX2 20 yX3_init := Or.inr ⟨"BarFigures", bf_mt 55 (by decide +kernel)⟩
theorem lw_X2_23 : Cond.methodLink RX2 23 Lib.Math.min.name ∈ lw_tbl := bf_mt 262 (by decide +kernel)
theorem lw_X2_29 : Cond.methodLink RX2 29 Lib.Math.max.name ∈ lw_tbl := bf_mt 265 (by decide +kernel)
theorem li_X2_48 : bf_li RX2 48 yJ6_bitCount_0f7a4 := Or.inl (bf_mt 357 (by decide +kernel))
theorem li_X2_54 : bf_li RX2 54 yX2_digitOf := Or.inl (bf_mt 355 (by decide +kernel))
theorem li_X2_57 : bf_li RX2 57 yX3_lit := Or.inr ⟨"BarFigures", bf_mt 356 (by decide +kernel)⟩
theorem li_X2_60 : bf_li RX2 60 yX2_nextDigit := Or.inl (bf_mt 403 (by decide +kernel))
theorem li_X2_63 : bf_li RX2 63 yX3_wearBetween := Or.inr ⟨"BarFigures", bf_mt 441 (by decide +kernel)⟩
theorem li_X2_67 : bf_li RX2 67 yX2_numberAfter := Or.inl (bf_mt 446 (by decide +kernel))
theorem li_X2_77 : bf_li RX2 77 yX2_digitsAlike := Or.inl (bf_mt 371 (by decide +kernel))
theorem li_X2_80 : bf_li RX2 80 yX3_digitsOf := Or.inr ⟨"BarFigures", bf_mt 375 (by decide +kernel)⟩
theorem li_X2_83 : bf_li RX2 83 yX2_memberOf := Or.inl (bf_mt 384 (by decide +kernel))
theorem li_X2_86 : bf_li RX2 86 yX2_countAlike := Or.inl (bf_mt 418 (by decide +kernel))
theorem li_X2_89 : bf_li RX2 89 yX2_nearestUnlike := Or.inl (bf_mt 419 (by decide +kernel))
theorem li_X2_92 : bf_li RX2 92 yX2_numberAlike := Or.inl (bf_mt 423 (by decide +kernel))
theorem li_X2_95 : bf_li RX2 95 yX3_unlikeSets := Or.inr ⟨"BarFigures", bf_mt 432 (by decide +kernel)⟩
theorem li_X2_99 : bf_li RX2 99 yX3_loneDigits := Or.inr ⟨"BarFigures", bf_mt 570 (by decide +kernel)⟩
theorem lw_X3_3 : Cond.methodLink RX3 3 objectInit ∈ lw_tbl := bf_mt 58 (by decide +kernel)
theorem li_X3_32 : bf_li RX3 32 yX3_light := Or.inl (bf_mt 272 (by decide +kernel))
theorem li_X3_35 : bf_li RX3 35 yX3_litIf := Or.inl (bf_mt 276 (by decide +kernel))
theorem li_X3_39 : bf_li RX3 39 yX8_isWithin := Or.inr ⟨"BarFigures", bf_mt 309 (by decide +kernel)⟩
theorem li_X3_43 : bf_li RX3 43 yX0_look := Or.inr ⟨"BarFigures", bf_mt 280 (by decide +kernel)⟩
theorem li_X3_49 : bf_li RX3 49 yX3_digitsOf := Or.inl (bf_mt 297 (by decide +kernel))
theorem li_X3_53 : bf_li RX3 53 yX3_lit := Or.inl (bf_mt 445 (by decide +kernel))
theorem li_X3_56 : bf_li RX3 56 yJ6_bitCount_0f7a4 := Or.inl (bf_mt 494 (by decide +kernel))
theorem li_X3_61 : bf_li RX3 61 yX3_isClearIf := Or.inl (bf_mt 495 (by decide +kernel))
theorem lw_X4_3 : Cond.methodLink RX4 3 objectInit ∈ lw_tbl := bf_mt 118 (by decide +kernel)
theorem li_X4_28 : bf_li RX4 28 yX8_isWithin := Or.inr ⟨"BarFigures", bf_mt 554 (by decide +kernel)⟩
theorem li_X4_35 : bf_li RX4 35 yX3_litIf := Or.inr ⟨"BarFigures", bf_mt 555 (by decide +kernel)⟩
theorem li_X4_41 : bf_li RX4 41 yX3_lit := Or.inr ⟨"BarFigures", bf_mt 556 (by decide +kernel)⟩
theorem lw_X5_3 : Cond.methodLink RX5 3 objectInit ∈ lw_tbl := bf_mt 175 (by decide +kernel)
theorem li_X5_22 : bf_li RX5 22 yX5_isNothing := Or.inl (bf_mt 220 (by decide +kernel))
theorem li_X5_26 : bf_li RX5 26 yX5_hasCells := Or.inl (bf_mt 224 (by decide +kernel))
theorem li_X5_30 : bf_li RX5 30 yX8_isWithin := Or.inr ⟨"BarFigures", bf_mt 242 (by decide +kernel)⟩
theorem lw_X5_33 : Cond.methodLink RX5 33 arraycopyName ∈ lw_tbl := bf_mt 616 (by decide +kernel)
theorem lw_X6_3 : Cond.methodLink RX6 3 objectInit ∈ lw_tbl := bf_mt 138 (by decide +kernel)
theorem li_X6_24 : bf_li RX6 24 yX5_read := Or.inr ⟨"BarFigures", bf_mt 470 (by decide +kernel)⟩
theorem li_X6_30 : bf_li RX6 30 yX8_isWithin := Or.inr ⟨"BarFigures", bf_mt 471 (by decide +kernel)⟩
theorem li_X6_38 : bf_li RX6 38 yX3_digitsOf := Or.inr ⟨"BarFigures", bf_mt 472 (by decide +kernel)⟩
theorem li_X6_46 : bf_li RX6 46 yX6_isBegin := Or.inl (bf_mt 477 (by decide +kernel))
theorem li_X6_50 : bf_li RX6 50 yX8_pick := Or.inr ⟨"BarFigures", bf_mt 485 (by decide +kernel)⟩
theorem li_X6_54 : bf_li RX6 54 yX6_isRow := Or.inl (bf_mt 481 (by decide +kernel))
theorem li_X7_11 : bf_li RX7 11 yX7_goesOn := Or.inl (bf_mt 235 (by decide +kernel))
theorem li_X7_15 : bf_li RX7 15 yX5_read := Or.inr ⟨"BarFigures", bf_mt 238 (by decide +kernel)⟩
theorem li_X7_21 : bf_li RX7 21 yX7_isDigit := Or.inl (bf_mt 243 (by decide +kernel))
theorem li_X7_25 : bf_li RX7 25 yX7_number := Or.inl (bf_mt 246 (by decide +kernel))
theorem li_X7_29 : bf_li RX7 29 yX7_kindOf := Or.inl (bf_mt 249 (by decide +kernel))
theorem li_X7_36 : bf_li RX7 36 yX8_isWithin := Or.inr ⟨"BarFigures", bf_mt 254 (by decide +kernel)⟩
theorem li_X7_40 : bf_li RX7 40 yX2_renew := Or.inr ⟨"BarFigures", bf_mt 258 (by decide +kernel)⟩
theorem li_X7_54 : bf_li RX7 54 yX3_renew := Or.inr ⟨"BarFigures", bf_mt 268 (by decide +kernel)⟩
theorem lw_X8_3 : Cond.methodLink RX8 3 objectInit ∈ lw_tbl := bf_mt 19 (by decide +kernel)
theorem li_X8_19 : bf_li RX8 19 yX2_init := Or.inr ⟨"BarFigures", bf_mt 26 (by decide +kernel)⟩
theorem li_X8_26 : bf_li RX8 26 yX4_init := Or.inr ⟨"BarFigures", bf_mt 115 (by decide +kernel)⟩
theorem li_X8_33 : bf_li RX8 33 yX6_init := Or.inr ⟨"BarFigures", bf_mt 135 (by decide +kernel)⟩
theorem li_X8_40 : bf_li RX8 40 yX1_init := Or.inr ⟨"BarFigures", bf_mt 148 (by decide +kernel)⟩
theorem li_X8_45 : bf_li RX8 45 yX5_init := Or.inr ⟨"BarFigures", bf_mt 172 (by decide +kernel)⟩
theorem li_X8_50 : bf_li RX8 50 yX8_isWithin := Or.inl (bf_mt 213 (by decide +kernel))
theorem li_X8_54 : bf_li RX8 54 yX5_faultOfCells := Or.inr ⟨"BarFigures", bf_mt 216 (by decide +kernel)⟩
theorem li_X8_58 : bf_li RX8 58 yX8_faulted := Or.inl (bf_mt 228 (by decide +kernel))
theorem li_X8_62 : bf_li RX8 62 yX7_firstFault := Or.inr ⟨"BarFigures", bf_mt 232 (by decide +kernel)⟩
theorem li_X8_68 : bf_li RX8 68 yX7_fill := Or.inr ⟨"BarFigures", bf_mt 255 (by decide +kernel)⟩
theorem li_X8_76 : bf_li RX8 76 yX8_isPlace := Or.inl (bf_mt 289 (by decide +kernel))
theorem li_X8_95 : bf_li RX8 95 yX3_unlikeSets := Or.inr ⟨"BarFigures", bf_mt 293 (by decide +kernel)⟩
theorem li_X8_102 : bf_li RX8 102 yX2_digitOf := Or.inr ⟨"BarFigures", bf_mt 301 (by decide +kernel)⟩
theorem li_X8_106 : bf_li RX8 106 yX3_lit := Or.inr ⟨"BarFigures", bf_mt 305 (by decide +kernel)⟩
theorem li_X8_113 : bf_li RX8 113 yX3_exchangeDead := Or.inr ⟨"BarFigures", bf_mt 318 (by decide +kernel)⟩
theorem li_X8_116 : bf_li RX8 116 yX3_exchangeStuck := Or.inr ⟨"BarFigures", bf_mt 326 (by decide +kernel)⟩
theorem li_X8_119 : bf_li RX8 119 yX3_digitsOf := Or.inr ⟨"BarFigures", bf_mt 338 (by decide +kernel)⟩
theorem li_X8_122 : bf_li RX8 122 yX2_isNone := Or.inr ⟨"BarFigures", bf_mt 343 (by decide +kernel)⟩
theorem li_X8_126 : bf_li RX8 126 yX2_isNumber := Or.inr ⟨"BarFigures", bf_mt 347 (by decide +kernel)⟩
theorem li_X8_129 : bf_li RX8 129 yX2_litBars := Or.inr ⟨"BarFigures", bf_mt 351 (by decide +kernel)⟩
theorem li_X8_132 : bf_li RX8 132 yX2_countAlike := Or.inr ⟨"BarFigures", bf_mt 367 (by decide +kernel)⟩
theorem li_X8_135 : bf_li RX8 135 yX2_numberAlike := Or.inr ⟨"BarFigures", bf_mt 380 (by decide +kernel)⟩
theorem li_X8_138 : bf_li RX8 138 yX2_flipsBetween := Or.inr ⟨"BarFigures", bf_mt 391 (by decide +kernel)⟩
theorem li_X8_141 : bf_li RX8 141 yX2_flipsOfStep := Or.inr ⟨"BarFigures", bf_mt 399 (by decide +kernel)⟩
theorem lw_X8_144 : Cond.methodLink RX8 144 Lib.Math.max.name ∈ lw_tbl := bf_mt 406 (by decide +kernel)
theorem li_X8_149 : bf_li RX8 149 yX8_pick := Or.inl (bf_mt 407 (by decide +kernel))
theorem li_X8_153 : bf_li RX8 153 yX2_nearestTo := Or.inr ⟨"BarFigures", bf_mt 414 (by decide +kernel)⟩
theorem li_X8_156 : bf_li RX8 156 yX2_unlikePictures := Or.inr ⟨"BarFigures", bf_mt 428 (by decide +kernel)⟩
theorem li_X8_159 : bf_li RX8 159 yX2_makeStep := Or.inr ⟨"BarFigures", bf_mt 437 (by decide +kernel)⟩
theorem li_X8_162 : bf_li RX8 162 yX2_stepsToDeath := Or.inr ⟨"BarFigures", bf_mt 454 (by decide +kernel)⟩
theorem li_X8_165 : bf_li RX8 165 yX6_fill := Or.inr ⟨"BarFigures", bf_mt 466 (by decide +kernel)⟩
theorem li_X8_168 : bf_li RX8 168 yX6_begins := Or.inr ⟨"BarFigures", bf_mt 473 (by decide +kernel)⟩
theorem li_X8_172 : bf_li RX8 172 yX3_fewestToMend := Or.inr ⟨"BarFigures", bf_mt 490 (by decide +kernel)⟩
theorem li_X8_175 : bf_li RX8 175 yX8_isOrderQuestion := Or.inl (bf_mt 503 (by decide +kernel))
theorem li_X8_178 : bf_li RX8 178 yX1_fill := Or.inr ⟨"BarFigures", bf_mt 506 (by decide +kernel)⟩
theorem li_X8_179 : bf_li RX8 179 yX1_search := Or.inr ⟨"BarFigures", bf_mt 514 (by decide +kernel)⟩
theorem li_X8_182 : bf_li RX8 182 yX1_fewest := Or.inr ⟨"BarFigures", bf_mt 525 (by decide +kernel)⟩
theorem li_X8_185 : bf_li RX8 185 yX1_placeOf := Or.inr ⟨"BarFigures", bf_mt 529 (by decide +kernel)⟩
theorem li_X8_188 : bf_li RX8 188 yX4_add := Or.inr ⟨"BarFigures", bf_mt 538 (by decide +kernel)⟩
theorem li_X8_191 : bf_li RX8 191 yX4_allAreSo := Or.inr ⟨"BarFigures", bf_mt 550 (by decide +kernel)⟩
theorem li_X8_197 : bf_li RX8 197 yX2_lonePictures := Or.inr ⟨"BarFigures", bf_mt 566 (by decide +kernel)⟩
theorem li_X8_203 : bf_li RX8 203 yX8_commonDivisor := Or.inl (bf_mt 574 (by decide +kernel))
theorem li_X8_207 : bf_li RX8 207 yX5_renew := Or.inr ⟨"BarFigures", bf_mt 581 (by decide +kernel)⟩
theorem li_X8_211 : bf_li RX8 211 yX5_dropRow := Or.inr ⟨"BarFigures", bf_mt 589 (by decide +kernel)⟩
theorem li_X8_214 : bf_li RX8 214 yX5_isNothing := Or.inr ⟨"BarFigures", bf_mt 597 (by decide +kernel)⟩
theorem li_X8_217 : bf_li RX8 217 yX5_hasCells := Or.inr ⟨"BarFigures", bf_mt 598 (by decide +kernel)⟩
theorem li_X8_220 : bf_li RX8 220 yX5_write := Or.inr ⟨"BarFigures", bf_mt 599 (by decide +kernel)⟩
theorem li_X8_223 : bf_li RX8 223 yX5_read := Or.inr ⟨"BarFigures", bf_mt 607 (by decide +kernel)⟩
theorem li_X8_229 : bf_li RX8 229 yX5_takeCells := Or.inr ⟨"BarFigures", bf_mt 612 (by decide +kernel)⟩
theorem li_X8_233 : bf_li RX8 233 yX8_turnedBody := Or.inl (bf_mt 621 (by decide +kernel))
theorem li_X8_237 : bf_li RX8 237 yX8_mirroredBody := Or.inl (bf_mt 629 (by decide +kernel))
theorem li_X8_240 : bf_li RX8 240 yX8_fairBody := Or.inl (bf_mt 633 (by decide +kernel))
theorem li_X8_243 : bf_li RX8 243 yX8_leave := Or.inl (bf_mt 625 (by decide +kernel))
theorem li_X8_253 : bf_li RX8 253 yX2_deadBars := Or.inr ⟨"BarFigures", bf_mt 657 (by decide +kernel)⟩
theorem lw_X9_1 : Cond.methodLink RX9 1 objectInit ∈ lw_tbl := bf_mt 666 (by decide +kernel)
theorem li_X9_73 : bf_li RX9 73 yX9_lost := Or.inl (bf_mt 1020 (by decide +kernel))
theorem li_X9_80 : bf_li RX9 80 yX9_in := Or.inl (bf_mt 760 (by decide +kernel))
theorem li_X9_87 : bf_li RX9 87 yX9_codeAt := Or.inl (bf_mt 783 (by decide +kernel))
theorem li_X9_91 : bf_li RX9 91 yX9_figure := Or.inl (bf_mt 787 (by decide +kernel))
theorem li_X9_98 : bf_li RX9 98 yX9_barsRead := Or.inl (bf_mt 795 (by decide +kernel))
theorem li_X9_101 : bf_li RX9 101 yX9_readsPlace := Or.inl (bf_mt 791 (by decide +kernel))
theorem li_X9_105 : bf_li RX9 105 yX9_failed := Or.inl (bf_mt 772 (by decide +kernel))
theorem li_X9_109 : bf_li RX9 109 yX9_isBeyond := Or.inl (bf_mt 776 (by decide +kernel))
theorem li_X9_113 : bf_li RX9 113 yX9_noSheet := Or.inl (bf_mt 756 (by decide +kernel))
theorem li_X9_117 : bf_li RX9 117 yX9_refused := Or.inl (bf_mt 763 (by decide +kernel))
theorem li_X9_122 : bf_li RX9 122 yX9_cellsBarred := Or.inl (bf_mt 768 (by decide +kernel))
theorem li_X9_126 : bf_li RX9 126 yX9_lifeRead := Or.inl (bf_mt 779 (by decide +kernel))
theorem li_X9_138 : bf_li RX9 138 yX9_exchanged := Or.inl (bf_mt 824 (by decide +kernel))
theorem li_X9_142 : bf_li RX9 142 yX9_figureOf := Or.inl (bf_mt 818 (by decide +kernel))
theorem li_X9_145 : bf_li RX9 145 yX9_mirrored := Or.inl (bf_mt 821 (by decide +kernel))
theorem li_X9_148 : bf_li RX9 148 yX9_turned := Or.inl (bf_mt 827 (by decide +kernel))
theorem li_X9_151 : bf_li RX9 151 yX9_faceOf := Or.inl (bf_mt 815 (by decide +kernel))
theorem li_X9_154 : bf_li RX9 154 yX9_ten := Or.inl (bf_mt 834 (by decide +kernel))
theorem li_X9_157 : bf_li RX9 157 yX9_burnsAt := Or.inl (bf_mt 811 (by decide +kernel))
theorem li_X9_160 : bf_li RX9 160 yX9_noPlace := Or.inl (bf_mt 803 (by decide +kernel))
theorem li_X9_163 : bf_li RX9 163 yX9_unlikeAt := Or.inl (bf_mt 807 (by decide +kernel))
theorem li_X9_166 : bf_li RX9 166 yX9_digitAt := Or.inl (bf_mt 830 (by decide +kernel))
theorem li_X9_173 : bf_li RX9 173 yX9_isIn := Or.inl (bf_mt 848 (by decide +kernel))
theorem li_X9_178 : bf_li RX9 178 yX9_digitsOf := Or.inl (bf_mt 864 (by decide +kernel))
theorem li_X9_181 : bf_li RX9 181 yX9_last := Or.inl (bf_mt 876 (by decide +kernel))
theorem li_X9_185 : bf_li RX9 185 yX9_noNumber := Or.inl (bf_mt 872 (by decide +kernel))
theorem li_X9_188 : bf_li RX9 188 yX9_bits := Or.inl (bf_mt 880 (by decide +kernel))
theorem li_X9_193 : bf_li RX9 193 yX9_flipsOf := Or.inl (bf_mt 892 (by decide +kernel))
theorem li_X9_199 : bf_li RX9 199 yX9_wears := Or.inl (bf_mt 925 (by decide +kernel))
theorem li_X9_205 : bf_li RX9 205 yX9_deadNow := Or.inl (bf_mt 917 (by decide +kernel))
theorem li_X9_208 : bf_li RX9 208 yX9_step := Or.inl (bf_mt 921 (by decide +kernel))
theorem li_X9_211 : bf_li RX9 211 yX9_keepAll := Or.inl (bf_mt 937 (by decide +kernel))
theorem li_X9_214 : bf_li RX9 214 yX9_bringBack := Or.inl (bf_mt 941 (by decide +kernel))
theorem li_X9_217 : bf_li RX9 217 yX9_diesAt := Or.inl (bf_mt 933 (by decide +kernel))
theorem li_X9_220 : bf_li RX9 220 yX9_firstDead := Or.inl (bf_mt 949 (by decide +kernel))
theorem li_X9_223 : bf_li RX9 223 yX9_begins := Or.inl (bf_mt 963 (by decide +kernel))
theorem li_X9_231 : bf_li RX9 231 yX9_beginsBy := Or.inl (bf_mt 959 (by decide +kernel))
theorem li_X9_235 : bf_li RX9 235 yX9_exchange := Or.inl (bf_mt 988 (by decide +kernel))
theorem li_X9_238 : bf_li RX9 238 yX9_orderFlips := Or.inl (bf_mt 980 (by decide +kernel))
theorem li_X9_241 : bf_li RX9 241 yX9_nextOrder := Or.inl (bf_mt 984 (by decide +kernel))
theorem li_X9_246 : bf_li RX9 246 yX9_orderBy := Or.inl (bf_mt 976 (by decide +kernel))
theorem li_X9_249 : bf_li RX9 249 yX9_areSo := Or.inl (bf_mt 1008 (by decide +kernel))
theorem li_X9_255 : bf_li RX9 255 yX9_deadsOf := Or.inl (bf_mt 1004 (by decide +kernel))
theorem li_X9_258 : bf_li RX9 258 yX9_share := Or.inl (bf_mt 1024 (by decide +kernel))
theorem li_X9_262 : bf_li RX9 262 yX9_noCell := Or.inl (bf_mt 1039 (by decide +kernel))
theorem li_X9_265 : bf_li RX9 265 yX9_failedLong := Or.inl (bf_mt 1047 (by decide +kernel))
theorem li_X9_272 : bf_li RX9 272 yX9_traced := Or.inl (bf_mt 1059 (by decide +kernel))
theorem nw_L_7 : bf_nw RL 7 7 := ⟨(RX8, TX8, 7), rfl, bf_mt 14 (by decide +kernel), bf_mt 15 (by decide +kernel), bf_ini_X8⟩
theorem lk_L_7 : Cond.classLink RL 7 RX8 ∈ lw_tbl := bf_mt 14 (by decide +kernel)
theorem nw_X8_11 : bf_nw RX8 11 5 := ⟨(RX5, TX5, 3), rfl, bf_mt 22 (by decide +kernel), bf_mt 171 (by decide +kernel), bf_ini_X5⟩
theorem lk_X8_11 : Cond.classLink RX8 11 RX5 ∈ lw_tbl := bf_mt 22 (by decide +kernel)
theorem nw_X8_17 : bf_nw RX8 17 2 := ⟨(RX2, TX2, 5), rfl, bf_mt 24 (by decide +kernel), bf_mt 25 (by decide +kernel), bf_ini_X2⟩
theorem lk_X8_17 : Cond.classLink RX8 17 RX2 ∈ lw_tbl := bf_mt 24 (by decide +kernel)
theorem nw_X2_9 : bf_nw RX2 9 3 := ⟨(RX3, TX3, 6), rfl, bf_mt 30 (by decide +kernel), bf_mt 54 (by decide +kernel), bf_ini_X3⟩
theorem lk_X2_9 : Cond.classLink RX2 9 RX3 ∈ lw_tbl := bf_mt 30 (by decide +kernel)
theorem nw_X2_17 : bf_nw RX2 17 0 := ⟨(RX0, TX0, 1), rfl, bf_mt 32 (by decide +kernel), bf_mt 33 (by decide +kernel), bf_ini_X0⟩
theorem lk_X2_17 : Cond.classLink RX2 17 RX0 ∈ lw_tbl := bf_mt 32 (by decide +kernel)
theorem gs_X0_15 : Cond.fieldLink RX0 15 RX0 "FIGURES" "[I" ∈ lw_tbl := bf_mt 38 (by decide +kernel)
theorem nw_X8_24 : bf_nw RX8 24 4 := ⟨(RX4, TX4, 4), rfl, bf_mt 113 (by decide +kernel), bf_mt 114 (by decide +kernel), bf_ini_X4⟩
theorem lk_X8_24 : Cond.classLink RX8 24 RX4 ∈ lw_tbl := bf_mt 113 (by decide +kernel)
theorem nw_X8_31 : bf_nw RX8 31 6 := ⟨(RX6, TX6, 2), rfl, bf_mt 133 (by decide +kernel), bf_mt 134 (by decide +kernel), bf_ini_X6⟩
theorem lk_X8_31 : Cond.classLink RX8 31 RX6 ∈ lw_tbl := bf_mt 133 (by decide +kernel)
theorem nw_X8_38 : bf_nw RX8 38 1 := ⟨(RX1, TX1, 6), rfl, bf_mt 146 (by decide +kernel), bf_mt 147 (by decide +kernel), bf_ini_X1⟩
theorem lk_X8_38 : Cond.classLink RX8 38 RX1 ∈ lw_tbl := bf_mt 146 (by decide +kernel)
theorem gs_X7_32 : Cond.fieldLink RX7 32 RX7 "GREATEST" "[I" ∈ lw_tbl := bf_mt 252 (by decide +kernel)
theorem lc_J6_265 : Cond.constant RJ6 265 (1431655765) ∈ lw_tbl := bf_mt 360 (by decide +kernel)
theorem lc_J6_266 : Cond.constant RJ6 266 (858993459) ∈ lw_tbl := bf_mt 361 (by decide +kernel)
theorem lc_J6_267 : Cond.constant RJ6 267 (252645135) ∈ lw_tbl := bf_mt 362 (by decide +kernel)
theorem lc_X8_195 : Cond.constantLong RX8 195 (-9223372036854775808) ∈ lw_tbl := bf_mt 565 (by decide +kernel)
theorem nw_L_10 : bf_nw RL 10 8 := ⟨(RX9, TX9, 28), rfl, bf_mt 661 (by decide +kernel), bf_mt 662 (by decide +kernel), bf_ini_X9⟩
theorem lk_L_10 : Cond.classLink RL 10 RX9 ∈ lw_tbl := bf_mt 661 (by decide +kernel)
theorem lc_X9_253 : Cond.constantLong RX9 253 (3) ∈ lw_tbl := bf_mt 759 (by decide +kernel)
theorem lc_X9_120 : Cond.constantLong RX9 120 (2) ∈ lw_tbl := bf_mt 767 (by decide +kernel)
theorem lc_X9_169 : Cond.constantLong RX9 169 (6) ∈ lw_tbl := bf_mt 842 (by decide +kernel)
theorem lc_X9_171 : Cond.constantLong RX9 171 (127) ∈ lw_tbl := bf_mt 847 (by decide +kernel)
theorem lc_X9_176 : Cond.constantLong RX9 176 (9) ∈ lw_tbl := bf_mt 859 (by decide +kernel)
theorem lc_X9_191 : Cond.constantLong RX9 191 (9999) ∈ lw_tbl := bf_mt 891 (by decide +kernel)
theorem lc_X9_203 : Cond.constantLong RX9 203 (500) ∈ lw_tbl := bf_mt 916 (by decide +kernel)
theorem lc_X9_227 : Cond.constantLong RX9 227 (10) ∈ lw_tbl := bf_mt 957 (by decide +kernel)
theorem lc_X9_229 : Cond.constantLong RX9 229 (99) ∈ lw_tbl := bf_mt 958 (by decide +kernel)
theorem lc_X9_244 : Cond.constantLong RX9 244 (15) ∈ lw_tbl := bf_mt 975 (by decide +kernel)
theorem lc_X9_67 : Cond.constantLong RX9 67 (-9223372036854775808) ∈ lw_tbl := bf_mt 1023 (by decide +kernel)
end
section
abbrev bf_CR : Type := bf_M → List Value → bf_G → Nat → bf_P → Prop
theorem bf_goodws {y : bf_M} (h : Cond.code y.1 y.2.1 y.2.2.1 y.2.2.2 ∈ lw_tbl) : GoodIn (lw_tbl.filter goodWord) (bf_ws y) := by
  intro w hw
  rcases List.mem_cons.mp hw with rfl | hw
  · exact ⟨List.mem_filter.mpr ⟨h, rfl⟩, good_of_word rfl⟩
  · exact ⟨hw, good_of_word (List.mem_filter.mp hw).2⟩
theorem bf_blind (E : bf_E) (vs : List Value) (G : bf_G) : FrameBlind (bf_Pc E vs G) := by
  intro a U g mk h
  obtain ⟨e1, h1, h2, h3⟩ := h
  exact ⟨e1, h1, bf_K.same (s := U) (U := U.calling g mk a) rfl h2, h3.moved (U := U.calling g mk a) (Vm.Alike.refl U.vm)⟩
section bfC
variable {p : Program} {l : Launch} {e : Env} {R : Room} {s : State} {m : MethodId} {args : Array Value} {below : List Frame} {meth : Method} {c : Code} {E : bf_E} {nL N0 : Nat} {Q : State → Prop} {y : bf_M}
theorem bf_pre {G : bf_G} {H : Heap} {locs : List Loc} (X : bf_X p s m args c E nL y) (hH : bf_HR E G H) (hS : va_S (bf_A E) s.heap H locs) (vs : List Value) : ∀ U : State, U.heap = H → s.WarmedH U.vm → bf_Pc E vs G (vs.map (bf_cv (bf_ad E))).toArray U := by
  intro U hU hW
  refine ⟨rfl, by rw [hU]; exact hH, X.2.2.2.2.2.1.warm hW, ?_⟩
  rw [hU]
  exact (X.2.2.2.2.2.2.kept (fun a h1 h2 => hS.2.1 a h1 h2)).moved hW.alike
theorem bf_call {H : Heap} {locs : List Loc} {ls : Array Slot} {cells slots mc ms pc n1 : Nat} {st0 rest : List Value} {P1 : bf_P} {a : Array Value} (hr : va_Run p l e R s m args below meth c H locs cells slots mc ms (F0 m pc ls st0) rest (bf_Qc E n1 P1 a) (bf_A E)) (hS : va_S (bf_A E) s.heap H locs)
    (kk : ∀ (r : Option Value) (G' : bf_G) (H1 : Heap) (locs1 : List Loc), P1 r G' → G'.1 = n1 → bf_HR E G' H1 → va_S (bf_A E) s.heap H1 locs1 → W p l e R s m args below meth c H1 locs1 (cells + mc) (slots + ms) Q (F0 m (pc + 3) ls ((r.map (bf_cv (bf_ad E))).toList ++ rest))) : W p l e R s m args below meth c H locs cells slots Q (F0 m pc ls st0) := by
  intro T hT X
  obtain ⟨v, st₀, t, T', L, h0, X', hL, e1, e2, ⟨⟨r, G', hv, hp, hn, hb⟩, hz, hk⟩, st⟩ := hr T hT X
  cases hv
  rw [h0] at hz hk
  obtain ⟨t2, a1, b1⟩ := kk r G' T'.heap (locs ++ L) hp hn (by rw [e1]; exact hb)
    ⟨Nat.le_trans hS.1 (by rw [e1]; exact hz), fun q h1 h2 => by rw [e1, hk q (Nat.lt_of_lt_of_le h1 hS.1) h2]; exact hS.2.1 q h1 h2, fun q hq => by
      rcases List.mem_append.mp hq with h | h
      · exact hS.2.2 q h
      · exact hL q h⟩ T' rfl X'
  exact ⟨t2, st t2 a1, b1⟩
/-- the room that a walk has for its calls, and what its calls are -/
def bf_Y (R : Room) (C : bf_CR) (d n' N0 : Nat) : Prop := d + 1 ≤ R.frames ∧ 60 * d + 60 ≤ R.locals ∧ n' - N0 ≤ R.cells ∧ bf_SL n' - bf_SL N0 ≤ R.slots ∧ n' ≤ 57 ∧ ∀ y2 vs G n1 P1, C y2 vs G n1 P1 → bf_MT d y2 vs G n1 P1 ∧ G.1 ≤ n1
theorem bf_cat_sum (ad : Nat → Nat) (S : List Value) : ((S.map (bf_cv ad)).map fun v => v.category).sum = (S.map Value.category).sum := by
  rw [List.map_map]
  congr 1
  apply List.map_congr_left
  intro v _
  exact bf_cat ad v
theorem bf_roomH {ad : Nat → Nat} {S st : List Value} {pc : Nat} {ls : Array Slot} (h : (S.map Value.category).sum ≤ 8) : 2 * (F0 m pc ls st).monitorRoom + ((S.map (bf_cv ad)).map fun v => v.category).sum ≤ 8 := by
  rw [bf_cat_sum]
  show 2 * 0 + _ ≤ 8
  omega
theorem bf_cellsH {G : bf_G} {R : Room} {C : bf_CR} {d n' N0 n1 : Nat} (Y : bf_Y R C d n' N0) (hN : N0 ≤ G.1) (h1 : G.1 ≤ n1) (h2 : n1 ≤ n') : (G.1 - N0 + (n1 - G.1) ≤ R.cells ∧ bf_SL G.1 - bf_SL N0 + (bf_SL n1 - bf_SL G.1) ≤ R.slots) ∧ G.1 - N0 + (n1 - G.1) = n1 - N0 ∧ bf_SL G.1 - bf_SL N0 + (bf_SL n1 - bf_SL G.1) = bf_SL n1 - bf_SL N0 := by
  have a1 := bf_SL_le hN
  have a2 := bf_SL_le h1
  have a3 := bf_SL_le h2
  have b1 := Y.2.2.1
  have b2 := Y.2.2.2.1
  refine ⟨⟨?_, ?_⟩, ?_, ?_⟩ <;> omega
def bf_r_callv (C : bf_CR) (n' : Nat) (y : bf_M) (J : bf_J) : Prop := ∀ (pc : Nat) (L : bf_L) (S S0 : List Value) (G : bf_G) (i : Nat) (y2 : bf_M) (ci n a : Nat) (vs : List Value) (n1 : Nat) (P1 : bf_P), decode y.2.1 pc = .ok (.invokevirtual i, 3) → bf_li y.1.cls i y2.1 → bf_mv y2 ci n → (bf_kd a).1 = ci → a < G.1 → vs.length = n → (S.map Value.category).sum ≤ 8 → S0 = vs.reverse ++ .ref a :: S → C y2 (.ref a :: vs) G n1 P1 → n1 ≤ n' → (∀ (r : Option Value) (G' : bf_G), P1 r G' → G'.1 = n1 → J (pc + 3) L (r.toList ++ S) G') → J pc L S0 G
def bf_r_calls (C : bf_CR) (n' : Nat) (y : bf_M) (J : bf_J) : Prop := ∀ (pc : Nat) (L : bf_L) (S S0 : List Value) (G : bf_G) (i : Nat) (y2 : bf_M) (n : Nat) (vs : List Value) (n1 : Nat) (P1 : bf_P), decode y.2.1 pc = .ok (.invokestatic i, 3) → bf_li y.1.cls i y2.1 → bf_ms y2 n → vs.length = n → (S.map Value.category).sum ≤ 8 → S0 = vs.reverse ++ S → C y2 vs G n1 P1 → n1 ≤ n' → (∀ (r : Option Value) (G' : bf_G), P1 r G' → G'.1 = n1 → J (pc + 3) L (r.toList ++ S) G') → J pc L S0 G
def bf_r_calli (C : bf_CR) (n' : Nat) (y : bf_M) (J : bf_J) : Prop := ∀ (pc : Nat) (L : bf_L) (S S0 : List Value) (G : bf_G) (i : Nat) (y2 : bf_M) (n a : Nat) (vs : List Value) (n1 : Nat) (P1 : bf_P), decode y.2.1 pc = .ok (.invokespecial i, 3) → bf_li y.1.cls i y2.1 → bf_mi y2 n → vs.length = n → (S.map Value.category).sum ≤ 8 → S0 = vs.reverse ++ .ref a :: S → C y2 (.ref a :: vs) G n1 P1 → n1 ≤ n' → (∀ (r : Option Value) (G' : bf_G), P1 r G' → G'.1 = n1 → J (pc + 3) L (r.toList ++ S) G') → J pc L S0 G
def bf_r_obj (y : bf_M) (J : bf_J) : Prop := ∀ (pc : Nat) (L : bf_L) (S : List Value) (G : bf_G) (i a : Nat), decode y.2.1 pc = .ok (.invokespecial i, 3) → Cond.methodLink y.1.cls i objectInit ∈ lw_tbl → (S.map Value.category).sum ≤ 8 → J (pc + 3) L S G → J pc L (.ref a :: S) G
theorem bf_toList {ad : Nat → Nat} (r : Option Value) (S : List Value) : (r.map (bf_cv ad)).toList ++ S.map (bf_cv ad) = (r.toList ++ S).map (bf_cv ad) := by cases r <;> rfl
theorem jw_callv {C : bf_CR} {d n' : Nat} (X : bf_X p s m args c E nL y) (Y : bf_Y R C d n' N0) : bf_r_callv C n' y (bf_JW p l e R s m args below meth c E nL N0 Q) := by
  intro pc L S S0 G i y2 ci n a vs n1 P1 dd hli hmv hk ha hn hsum hS0 hC hle k
  intro H locs ls hH hS hl hN
  subst hS0
  obtain ⟨hM, h1⟩ := Y.2.2.2.2.2 _ _ _ _ _ hC
  obtain ⟨⟨hcode, hini, hpl, hd, hmx⟩, q, hq, hinst, hsel⟩ := hmv
  have hci : ci < 9 := (List.getElem?_eq_some_iff.mp hq).1
  obtain ⟨cell, q1, q2, q3, q4⟩ := (hH.2.2 a ha).obj hk hci
  have hfc := (X.2.2.2.2.2.1.1.1 ci _ hq).2.1
  have hcells := bf_cellsH Y hN h1 hle
  have hts : ∀ w ∈ lw_tbl.filter goodWord, w.before args s = true := fun w hw => X.2.2.2.2.1 w (List.mem_filter.mp hw).1 (List.mem_filter.mp hw).2
  have hPre : PreV s H q.1 (bf_ad E a) (bf_Pc E (.ref a :: vs) G) (vs.map (bf_cv (bf_ad E))) := ⟨bf_blind _ _ _, ⟨cell, q1, by rw [q3]; rfl, by rw [q2]; exact hfc⟩, bf_pre X hH hS (.ref a :: vs)⟩
  have hst : (vs.reverse ++ .ref a :: S).map (bf_cv (bf_ad E)) = (vs.map (bf_cv (bf_ad E))).reverse ++ .ref (bf_ad E a) :: S.map (bf_cv (bf_ad E)) := by simp [bf_cv]
  have hR : (bf_rm d G.1 n1).frames + 1 ≤ R.frames ∧ 8 + (y2.2.2.1 + 11) + (bf_rm d G.1 n1).locals ≤ R.locals := ⟨Y.1, by have := Y.2.1; show 8 + (y2.2.2.1 + 11) + 60 * d ≤ _; omega⟩
  have kk : ∀ (r : Option Value) (G' : bf_G) (H1 : Heap) (locs1 : List Loc), P1 r G' → G'.1 = n1 → bf_HR E G' H1 → va_S (bf_A E) s.heap H1 locs1 → W p l e R s m args below meth c H1 locs1 (G.1 - N0 + (n1 - G.1)) (bf_SL G.1 - bf_SL N0 + (bf_SL n1 - bf_SL G.1)) Q (F0 m (pc + 3) ls ((r.map (bf_cv (bf_ad E))).toList ++ S.map (bf_cv (bf_ad E)))) := by
    intro r G' H1 locs1 hp hg hh hs
    have := k r G' hp hg H1 locs1 ls hh hs hl (by rw [hg]; omega)
    rw [hcells.2.1, hcells.2.2, bf_toList, ← hg]
    exact this
  rcases hli with hli | ⟨host, hli⟩
  · refine bf_call (E := E) (n1 := n1) (P1 := P1) (va_runV (C := q.1) (As := vs.map (bf_cv (bf_ad E))) (rest := S.map (bf_cv (bf_ad E))) (Ts := lw_tbl.filter goodWord) ⟨X.1, X.2.1, X.2.2.1, X.2.2.2.1, hts⟩ (hM l E) ⟨callB_of n hts (bf_goodws hcode) rfl rfl rfl (hts _ (List.mem_filter.mpr ⟨hini, rfl⟩)) (hts _ (List.mem_filter.mpr ⟨hli, rfl⟩)) hd hR, hts _ (List.mem_filter.mpr ⟨hinst, rfl⟩), hts _ (List.mem_filter.mpr ⟨hsel, rfl⟩)⟩ hPre rfl (by rw [List.length_map]; exact hn) hl.1 hst (bf_roomH hsum) dd hcells.1) hS kk
  · refine bf_call (E := E) (n1 := n1) (P1 := P1) (va_runVN (C := q.1) (As := vs.map (bf_cv (bf_ad E))) (rest := S.map (bf_cv (bf_ad E))) (Ts := lw_tbl.filter goodWord) ⟨X.1, X.2.1, X.2.2.1, X.2.2.2.1, hts⟩ (hM l E) ⟨va_cnB n hts (bf_goodws hcode) rfl rfl rfl (X.2.2.2.2.2.1.2.1 _ hli rfl) (hts _ (List.mem_filter.mpr ⟨hini, rfl⟩)) hd hR, hts _ (List.mem_filter.mpr ⟨hinst, rfl⟩), hts _ (List.mem_filter.mpr ⟨hsel, rfl⟩)⟩ hPre rfl (by rw [List.length_map]; exact hn) hl.1 hst (bf_roomH hsum) dd hcells.1) hS kk
theorem jw_calls {C : bf_CR} {d n' : Nat} (X : bf_X p s m args c E nL y) (Y : bf_Y R C d n' N0) : bf_r_calls C n' y (bf_JW p l e R s m args below meth c E nL N0 Q) := by
  intro pc L S S0 G i y2 n vs n1 P1 dd hli hms hn hsum hS0 hC hle k
  intro H locs ls hH hS hl hN
  subst hS0
  obtain ⟨hM, h1⟩ := Y.2.2.2.2.2 _ _ _ _ _ hC
  obtain ⟨⟨hcode, hini, hpl, hd, hmx⟩, hstc⟩ := hms
  have hcells := bf_cellsH Y hN h1 hle
  have hts : ∀ w ∈ lw_tbl.filter goodWord, w.before args s = true := fun w hw => X.2.2.2.2.1 w (List.mem_filter.mp hw).1 (List.mem_filter.mp hw).2
  have hPre : PreS s H (bf_Pc E vs G) (vs.map (bf_cv (bf_ad E))) := ⟨bf_blind _ _ _, bf_pre X hH hS vs⟩
  have hst : (vs.reverse ++ S).map (bf_cv (bf_ad E)) = (vs.map (bf_cv (bf_ad E))).reverse ++ S.map (bf_cv (bf_ad E)) := by simp
  have hR : (bf_rm d G.1 n1).frames + 1 ≤ R.frames ∧ 8 + (y2.2.2.1 + 11) + (bf_rm d G.1 n1).locals ≤ R.locals := ⟨Y.1, by have := Y.2.1; show 8 + (y2.2.2.1 + 11) + 60 * d ≤ _; omega⟩
  have kk : ∀ (r : Option Value) (G' : bf_G) (H1 : Heap) (locs1 : List Loc), P1 r G' → G'.1 = n1 → bf_HR E G' H1 → va_S (bf_A E) s.heap H1 locs1 → W p l e R s m args below meth c H1 locs1 (G.1 - N0 + (n1 - G.1)) (bf_SL G.1 - bf_SL N0 + (bf_SL n1 - bf_SL G.1)) Q (F0 m (pc + 3) ls ((r.map (bf_cv (bf_ad E))).toList ++ S.map (bf_cv (bf_ad E)))) := by
    intro r G' H1 locs1 hp hg hh hs
    have := k r G' hp hg H1 locs1 ls hh hs hl (by rw [hg]; omega)
    rw [hcells.2.1, hcells.2.2, bf_toList, ← hg]
    exact this
  rcases hli with hli | ⟨host, hli⟩
  · exact bf_call (E := E) (n1 := n1) (P1 := P1) (va_runS (As := vs.map (bf_cv (bf_ad E))) (rest := S.map (bf_cv (bf_ad E))) (Ts := lw_tbl.filter goodWord) ⟨X.1, X.2.1, X.2.2.1, X.2.2.2.1, hts⟩ (hM l E) ⟨callB_of n hts (bf_goodws hcode) rfl rfl rfl (hts _ (List.mem_filter.mpr ⟨hini, rfl⟩)) (hts _ (List.mem_filter.mpr ⟨hli, rfl⟩)) hd hR, hts _ (List.mem_filter.mpr ⟨hstc, rfl⟩)⟩ hPre rfl (by rw [List.length_map]; exact hn) hl.1 hst (bf_roomH hsum) dd hcells.1) hS kk
  · exact bf_call (E := E) (n1 := n1) (P1 := P1) (va_runSN (As := vs.map (bf_cv (bf_ad E))) (rest := S.map (bf_cv (bf_ad E))) (Ts := lw_tbl.filter goodWord) ⟨X.1, X.2.1, X.2.2.1, X.2.2.2.1, hts⟩ (hM l E) ⟨va_cnB n hts (bf_goodws hcode) rfl rfl rfl (X.2.2.2.2.2.1.2.1 _ hli rfl) (hts _ (List.mem_filter.mpr ⟨hini, rfl⟩)) hd hR, hts _ (List.mem_filter.mpr ⟨hstc, rfl⟩), trivial⟩ hPre rfl (by rw [List.length_map]; exact hn) hl.1 hst (bf_roomH hsum) dd hcells.1) hS kk
theorem jw_calli {C : bf_CR} {d n' : Nat} (X : bf_X p s m args c E nL y) (Y : bf_Y R C d n' N0) : bf_r_calli C n' y (bf_JW p l e R s m args below meth c E nL N0 Q) := by
  intro pc L S S0 G i y2 n a vs n1 P1 dd hli hmi hn hsum hS0 hC hle k
  intro H locs ls hH hS hl hN
  subst hS0
  obtain ⟨hM, h1⟩ := Y.2.2.2.2.2 _ _ _ _ _ hC
  obtain ⟨⟨hcode, hini, hpl, hd, hmx⟩, hinst, hnm, hret⟩ := hmi
  have hcells := bf_cellsH Y hN h1 hle
  have hts : ∀ w ∈ lw_tbl.filter goodWord, w.before args s = true := fun w hw => X.2.2.2.2.1 w (List.mem_filter.mp hw).1 (List.mem_filter.mp hw).2
  have hPre : PreS s H (bf_Pc E (.ref a :: vs) G) (.ref (bf_ad E a) :: vs.map (bf_cv (bf_ad E))) := ⟨bf_blind _ _ _, bf_pre X hH hS (.ref a :: vs)⟩
  have hst : (vs.reverse ++ .ref a :: S).map (bf_cv (bf_ad E)) = (vs.map (bf_cv (bf_ad E))).reverse ++ .ref (bf_ad E a) :: S.map (bf_cv (bf_ad E)) := by simp [bf_cv]
  have hR : (bf_rm d G.1 n1).frames + 1 ≤ R.frames ∧ 8 + (y2.2.2.1 + 11) + (bf_rm d G.1 n1).locals ≤ R.locals := ⟨Y.1, by have := Y.2.1; show 8 + (y2.2.2.1 + 11) + 60 * d ≤ _; omega⟩
  have kk : ∀ (r : Option Value) (G' : bf_G) (H1 : Heap) (locs1 : List Loc), P1 r G' → G'.1 = n1 → bf_HR E G' H1 → va_S (bf_A E) s.heap H1 locs1 → W p l e R s m args below meth c H1 locs1 (G.1 - N0 + (n1 - G.1)) (bf_SL G.1 - bf_SL N0 + (bf_SL n1 - bf_SL G.1)) Q (F0 m (pc + 3) ls ((r.map (bf_cv (bf_ad E))).toList ++ S.map (bf_cv (bf_ad E)))) := by
    intro r G' H1 locs1 hp hg hh hs
    have := k r G' hp hg H1 locs1 ls hh hs hl (by rw [hg]; omega)
    rw [hcells.2.1, hcells.2.2, bf_toList, ← hg]
    exact this
  obtain ⟨y1, yc, yl, yr⟩ := y2
  dsimp only at hret
  subst hret
  rcases hli with hli | ⟨host, hli⟩
  · exact bf_call (E := E) (n1 := n1) (P1 := P1) (va_runI (As := vs.map (bf_cv (bf_ad E))) (rest := S.map (bf_cv (bf_ad E))) (Ts := lw_tbl.filter goodWord) ⟨X.1, X.2.1, X.2.2.1, X.2.2.2.1, hts⟩ (hM l E) ⟨callB_of n hts (bf_goodws hcode) rfl rfl rfl (hts _ (List.mem_filter.mpr ⟨hini, rfl⟩)) (hts _ (List.mem_filter.mpr ⟨hli, rfl⟩)) hd hR, hnm, hts _ (List.mem_filter.mpr ⟨hinst, rfl⟩)⟩ hPre rfl (by rw [List.length_map]; exact hn) hl.1 hst (bf_roomH hsum) dd hcells.1) hS kk
  · exact bf_call (E := E) (n1 := n1) (P1 := P1) (va_runIN (As := vs.map (bf_cv (bf_ad E))) (rest := S.map (bf_cv (bf_ad E))) (Ts := lw_tbl.filter goodWord) ⟨X.1, X.2.1, X.2.2.1, X.2.2.2.1, hts⟩ (hM l E) ⟨va_cnB n hts (bf_goodws hcode) rfl rfl rfl (X.2.2.2.2.2.1.2.1 _ hli rfl) (hts _ (List.mem_filter.mpr ⟨hini, rfl⟩)) hd hR, hnm, hts _ (List.mem_filter.mpr ⟨hinst, rfl⟩)⟩ hPre rfl (by rw [List.length_map]; exact hn) hl.1 hst (bf_roomH hsum) dd hcells.1) hS kk
theorem jw_obj {C : bf_CR} {d n' : Nat} (X : bf_X p s m args c E nL y) (Y : bf_Y R C d n' N0) : bf_r_obj y (bf_JW p l e R s m args below meth c E nL N0 Q) := by
  intro pc L S G i a dd hw hsum k
  intro H locs ls hH hS hl hN
  have h1 := Y.1
  have h2 := Y.2.1
  have hr := bf_roomH (m := m) (ad := bf_ad E) (st := []) (pc := pc) (ls := ls) hsum
  exact W.objInit X.1 X.2.1 X.2.2.2.1 (X.2.2.2.2.1 _ hw rfl) (X.2.2.2.2.1 _ (bf_mt 20 (by decide +kernel)) rfl) (X.2.2.2.2.1 _ (bf_mt 21 (by decide +kernel)) rfl) rfl (hl.1.trans X.2.2.1.symm) rfl dd (by omega) (by
    have : 2 * (F0 m pc ls (Value.ref (bf_ad E a) :: S.map (bf_cv (bf_ad E)))).monitorRoom + ((S.map (bf_cv (bf_ad E))).map fun v => v.category).sum ≤ 8 := bf_roomH hsum
    refine Nat.le_trans (Nat.add_le_add_right this 12) ?_
    omega) (k H locs ls hH hS hl hN)
end bfC
end
section
section bfD
variable {p : Program} {l : Launch} {e : Env} {R : Room} {s : State} {m : MethodId} {args : Array Value} {below : List Frame} {meth : Method} {c : Code} {E : bf_E} {nL N0 : Nat} {Q : State → Prop} {y : bf_M}
def bf_r_new (n' : Nat) (y : bf_M) (J : bf_J) : Prop := ∀ (pc : Nat) (L : bf_L) (S : List Value) (G : bf_G) (i ci n : Nat) (f : Nat → Value), decode y.2.1 pc = .ok (.new i, 3) → bf_nw y.1.cls i ci → bf_kd G.1 = (ci, n) → G.1 < n' → bf_dfl ci f → (∀ j, bf_cv (fun k => k) (f j) = f j ∧ ∀ k, f j ≠ .ref k) → J (pc + 3) L (.ref G.1 :: S) (G.1 + 1, bf_fill G.2 G.1 f) → J pc L S G
def bf_r_newa (n' : Nat) (y : bf_M) (J : bf_J) : Prop := ∀ (pc : Nat) (L : bf_L) (S : List Value) (G : bf_G) (n : Nat) (v : Int32), decode y.2.1 pc = .ok (.newarray .int, 2) → bf_kd G.1 = (9, n) → n ≤ 1000 → v = Int32.ofNat n → G.1 < n' → J (pc + 2) L (.ref G.1 :: S) (G.1 + 1, bf_fill G.2 G.1 (fun _ => .int 0)) → J pc L (.int v :: S) G
def bf_r_anew (n' : Nat) (y : bf_M) (J : bf_J) : Prop := ∀ (pc : Nat) (L : bf_L) (S : List Value) (G : bf_G) (i ci n : Nat) (v : Int32), decode y.2.1 pc = .ok (.anewarray i, 3) → ((ci = 10 ∧ Cond.classLink y.1.cls i RX3 ∈ lw_tbl) ∨ (ci = 11 ∧ Cond.classLink y.1.cls i RX5 ∈ lw_tbl)) → bf_kd G.1 = (ci, n) → n ≤ 1000 → v = Int32.ofNat n → G.1 < n' → J (pc + 3) L (.ref G.1 :: S) (G.1 + 1, bf_fill G.2 G.1 (fun _ => .null)) → J pc L (.int v :: S) G
def bf_r_aast (y : bf_M) (J : bf_J) : Prop := ∀ (pc : Nat) (L : bf_L) (S : List Value) (G : bf_G) (a b ci n : Nat) (i : Int32), decode y.2.1 pc = .ok (.aastore, 1) → bf_kd a = (ci, n) → ((ci = 10 ∧ (bf_kd b).1 = 3) ∨ (ci = 11 ∧ (bf_kd b).1 = 5)) → a < G.1 → b < G.1 → vp_in i n → J (pc + 1) L S (G.1, bf_up G.2 a i.toNatClampNeg (.ref b)) → J pc L (.ref b :: .int i :: .ref a :: S) G
def bf_r_acopy (y : bf_M) (J : bf_J) : Prop := ∀ (pc : Nat) (L : bf_L) (S : List Value) (G : bf_G) (i a0 a1 n0 n1 : Nat) (f g : Nat → Int32) (sp dp n : Int32), decode y.2.1 pc = .ok (.invokestatic i, 3) → Cond.methodLink y.1.cls i arraycopyName ∈ lw_tbl → bf_kd a0 = (9, n0) → bf_kd a1 = (9, n1) → a0 < G.1 → a1 < G.1 → (∀ j, G.2 a0 j = .int (f j)) → (∀ j, G.2 a1 j = .int (g j)) → ¬ sp < 0 → ¬ dp < 0 → ¬ n < 0 → sp.toNatClampNeg + n.toNatClampNeg ≤ n0 → dp.toNatClampNeg + n.toNatClampNeg ≤ n1 → (S.map Value.category).sum ≤ 8 → J (pc + 3) L S (G.1, bf_fill G.2 a1 (fun j => .int (va_cpy f g sp.toNatClampNeg dp.toNatClampNeg n.toNatClampNeg j))) → J pc L (.int n :: .int dp :: .ref a1 :: .int sp :: .ref a0 :: S) G
def bf_r_putF (y : bf_M) (J : bf_J) : Prop := ∀ (pc : Nat) (L : bf_L) (S : List Value) (G : bf_G) (i ci j a b : Nat), decode y.2.1 pc = .ok (.putfield i, 3) → bf_ff y.1.cls i ci j → y.1.name = "<init>" → (bf_kd a).1 = ci → a < G.1 → J (pc + 3) L S (G.1, bf_up G.2 a j (.ref b)) → J pc L (.ref b :: .ref a :: S) G
def bf_r_iret (n' : Nat) (Post : bf_P) (y : bf_M) (J : bf_J) : Prop := ∀ (pc : Nat) (L : bf_L) (G : bf_G) (v : Int32) (ty : FieldType), decode y.2.1 pc = .ok (.ireturn, 1) → y.2.2.2 = some ty → narrow ty (.int v) = .int v → G.1 = n' → Post (some (.int v)) G → J pc L [.int v] G
def bf_r_lret (n' : Nat) (Post : bf_P) (y : bf_M) (J : bf_J) : Prop := ∀ (pc : Nat) (L : bf_L) (G : bf_G) (v : Int64), decode y.2.1 pc = .ok (.lreturn, 1) → y.2.2.2 = some .long → G.1 = n' → Post (some (.long v)) G → J pc L [.long v] G
def bf_r_vret (n' : Nat) (Post : bf_P) (y : bf_M) (J : bf_J) : Prop := ∀ (pc : Nat) (L : bf_L) (G : bf_G), decode y.2.1 pc = .ok (.return_, 1) → y.2.2.2 = none → G.1 = n' → Post none G → J pc L [] G
def bf_r_mmax (n' : Nat) (y : bf_M) (J : bf_J) : Prop := ∀ (pc : Nat) (L : bf_L) (S : List Value) (G : bf_G) (i : Nat) (x z : Int32), decode y.2.1 pc = .ok (.invokestatic i, 3) → Cond.methodLink y.1.cls i Lib.Math.max.name ∈ lw_tbl → G.1 ≤ n' → (S.map Value.category).sum ≤ 8 → J (pc + 3) L (.int (if x < z then z else x) :: S) G → J pc L (.int z :: .int x :: S) G
def bf_r_mmin (n' : Nat) (y : bf_M) (J : bf_J) : Prop := ∀ (pc : Nat) (L : bf_L) (S : List Value) (G : bf_G) (i : Nat) (x z : Int32), decode y.2.1 pc = .ok (.invokestatic i, 3) → Cond.methodLink y.1.cls i Lib.Math.min.name ∈ lw_tbl → G.1 ≤ n' → (S.map Value.category).sum ≤ 8 → J (pc + 3) L (.int (if z < x then z else x) :: S) G → J pc L (.int z :: .int x :: S) G
theorem bf_cv_id {ad : Nat → Nat} {v : Value} (h : ∀ k, v ≠ .ref k) : bf_cv ad v = v := by
  cases v with
  | ref k => exact absurd rfl (h k)
  | _ => rfl
theorem bf_slots1 {C : bf_CR} {d n' : Nat} {G : bf_G} {n : Nat} (Y : bf_Y R C d n' N0) (hN : N0 ≤ G.1) (hlt : G.1 < n') (hn : (bf_kd G.1).2 = n) : G.1 - N0 + 1 ≤ R.cells ∧ bf_SL G.1 - bf_SL N0 + n ≤ R.slots ∧ G.1 - N0 + 1 = (G.1 + 1) - N0 ∧ bf_SL G.1 - bf_SL N0 + n = bf_SL (G.1 + 1) - bf_SL N0 := by
  have h1 := bf_cellsH (n1 := G.1 + 1) Y hN (Nat.le_succ _) hlt
  have e : bf_SL (G.1 + 1) = bf_SL G.1 + n := by rw [← hn]; rfl
  have a1 := bf_SL_le hN
  rw [e] at h1 ⊢
  refine ⟨?_, ?_, ?_, ?_⟩ <;> omega
theorem jw_new {C : bf_CR} {d n' : Nat} (X : bf_X p s m args c E nL y) (Y : bf_Y R C d n' N0) : bf_r_new n' y (bf_JW p l e R s m args below meth c E nL N0 Q) := by
  intro pc L S G i ci n f dd hw hk hlt hdf hid k
  intro H locs ls hH hS hl hN
  obtain ⟨q, hq, w1, w2, w3⟩ := hw
  obtain ⟨q', ty0, ⟨hq', hin, hty, hnm⟩, hdv⟩ := hdf
  cases hq.symm.trans hq'
  have hci : ci < 9 := (List.getElem?_eq_some_iff.mp hq).1
  have h57 : G.1 < 57 := Nat.lt_of_lt_of_le hlt Y.2.2.2.2.1
  have hsz := hH.2.1 h57
  have hn : n = q.2.2 := by have := bf_kd_sz (a := G.1) (by rw [hk]) hq h57; rw [hk] at this; exact this
  have hKn := X.2.2.2.2.2.1.1.1 ci _ hq
  have hts := fun w hw => X.2.2.2.2.1 w (hin w hw) (bf_gw hw)
  obtain ⟨c1, c2, c3, c4⟩ := bf_slots1 (n := q.2.2) Y hN hlt (by rw [hk]; exact hn)
  have had : bf_ad E G.1 = H.size := by rw [bf_ad_lt E (by omega), hsz]
  refine W.newcK X.1 X.2.1 X.2.2.2.1 (X.2.2.2.2.1 _ w1 rfl) (X.2.2.2.2.1 _ w2 rfl) (X.2.2.2.2.1 _ w3 rfl) rfl dd c1 c2 hKn.2.1 rfl fun H1 kC hkC e1 z1 o1 => ?_
  rw [c3, c4]
  have := k H1 locs ls (hH.new h57 z1 o1 ?_ (fun b j hb => by simp [bf_fill, hb])) (bf_S.new hS z1 o1) hl (by show N0 ≤ G.1 + 1; omega)
  · rw [← had]
    exact this
  · unfold bf_C
    rw [hk, if_pos hci, had]
    refine (u_born (s := s) (args := args) (ws := u_ws q.1 q.2.1 q.2.2) ty0 hts (fun w h => h) hKn hkC e1 hty).to (N := q.2.2) (fun j hj => ?_) |> fun z => by rw [hn]; exact z
    rw [hdv j hj]
    simp only [bf_fill, if_pos]
    exact (bf_cv_id (hid j).2).symm
theorem jw_newa {C : bf_CR} {d n' : Nat} (X : bf_X p s m args c E nL y) (Y : bf_Y R C d n' N0) : bf_r_newa n' y (bf_JW p l e R s m args below meth c E nL N0 Q) := by
  intro pc L S G n v dd hk hn hv hlt k
  intro H locs ls hH hS hl hN
  have h57 : G.1 < 57 := Nat.lt_of_lt_of_le hlt Y.2.2.2.2.1
  have hsz := hH.2.1 h57
  obtain ⟨c1, c2, c3, c4⟩ := bf_slots1 (n := n) Y hN hlt (by rw [hk])
  have had : bf_ad E G.1 = H.size := by rw [bf_ad_lt E (by omega), hsz]
  subst hv
  have hcl : (Int32.ofNat n).toNatClampNeg = n := nI_clamp (by omega)
  refine va_newaK (atype := .int) (N := n) X.1 X.2.1 (X.2.2.2.2.1 _ (bf_mt 53 (by decide +kernel)) rfl) rfl dd rfl (nI_pos (by omega)) hcl (by show n * 4 ≤ _; omega) c1 c2 rfl fun H1 cA1 e1 z1 o1 hA hNm => ?_
  rw [c3, c4]
  have hcA : cA1 = E.2.2.2.2.2 9 := Option.some.inj (hNm.symm.trans (X.2.2.2.2.2.1.1.2 0 _ rfl).2)
  subst hcA
  have := k H1 locs ls (hH.new h57 z1 o1 ?_ (fun b j hb => by simp [bf_fill, hb])) (bf_S.new hS z1 o1) hl (by show N0 ≤ G.1 + 1; omega)
  · rw [← had]
    exact this
  · unfold bf_C
    rw [hk, if_neg (by simp), had, e1]
    simp [bf_fill, bf_cv]
    rfl
theorem jw_anew {C : bf_CR} {d n' : Nat} (X : bf_X p s m args c E nL y) (Y : bf_Y R C d n' N0) : bf_r_anew n' y (bf_JW p l e R s m args below meth c E nL N0 Q) := by
  intro pc L S G i ci n v dd hw hk hn hv hlt k
  intro H locs ls hH hS hl hN
  have h57 : G.1 < 57 := Nat.lt_of_lt_of_le hlt Y.2.2.2.2.1
  have hsz := hH.2.1 h57
  obtain ⟨c1, c2, c3, c4⟩ := bf_slots1 (n := n) Y hN hlt (by rw [hk])
  have had : bf_ad E G.1 = H.size := by rw [bf_ad_lt E (by omega), hsz]
  subst hv
  have hcl : (Int32.ofNat n).toNatClampNeg = n := nI_clamp (by omega)
  have fin : ∀ cA1 : ClassId, cA1 = E.2.2.2.2.2 ci → ¬ ci < 9 → W p l e R s m args below meth c (H.push { cls := cA1, slots := Array.replicate (Int32.ofNat n).toNatClampNeg .null, vm := .none }) locs (G.1 - N0 + 1) (bf_SL G.1 - bf_SL N0 + (Int32.ofNat n).toNatClampNeg) Q (F0 m (pc + 3) ls (.ref H.size :: S.map (bf_cv (bf_ad E)))) := by
    intro cA1 hcA hc9
    rw [hcl, c3, c4]
    have o1 : ∀ q : Nat, q < H.size → (H.push ({ cls := cA1, slots := Array.replicate n .null, vm := .none } : Cell))[q]? = H[q]? := fun q hq => by rw [Array.getElem?_push, if_neg (Nat.ne_of_lt hq)]
    have := k (H.push { cls := cA1, slots := Array.replicate n .null, vm := .none }) locs ls (hH.new h57 (Array.size_push ..) o1 ?_ (fun b j hb => by simp [bf_fill, hb])) (bf_S.new hS (Array.size_push ..) o1) hl (by show N0 ≤ G.1 + 1; omega)
    · rw [← had]
      exact this
    · unfold bf_C
      rw [hk, if_neg (by simpa using hc9), had, Array.getElem?_push_size, ← hcA]
      simp only [bf_fill, if_pos, bf_cv]
      rw [arrV_new]
  rcases hw with ⟨rfl, hw⟩ | ⟨rfl, hw⟩
  · refine W.anew X.1 X.2.1 X.2.2.2.1 (X.2.2.2.2.1 _ hw rfl) (va_AO.use X.2.2.2.2.2.1.2.2.1) rfl dd rfl (nI_pos (by omega)) (by rw [hcl]; omega) c1 (by rw [hcl]; exact c2) fun cA1 kA comp f1 f2 f3 f4 => fin cA1 ?_ (by decide)
    obtain ⟨kA', comp', -, -, -, h4⟩ := (X.2.2.2.2.2.1.1.2 1 _ rfl).2
    exact Option.some.inj (f1.symm.trans h4)
  · refine W.anew X.1 X.2.1 X.2.2.2.1 (X.2.2.2.2.1 _ hw rfl) (va_AO.use X.2.2.2.2.2.1.2.2.2) rfl dd rfl (nI_pos (by omega)) (by rw [hcl]; omega) c1 (by rw [hcl]; exact c2) fun cA1 kA comp f1 f2 f3 f4 => fin cA1 ?_ (by decide)
    obtain ⟨kA', comp', -, -, -, h4⟩ := (X.2.2.2.2.2.1.1.2 2 _ rfl).2
    exact Option.some.inj (f1.symm.trans h4)
theorem jw_aast (X : bf_X p s m args c E nL y) : bf_r_aast y (bf_JW p l e R s m args below meth c E nL N0 Q) := by
  intro pc L S G a b ci n i dd hk hc ha hb hi k
  intro H locs ls hH hS hl hN
  have hlt : i.toNatClampNeg < n := Nat.not_le.mp fun q => hi (Or.inr q)
  have h0 : ¬ i < 0 := fun q => hi (Or.inl q)
  have hcc := (hH.2.2 a ha).arr hk (by omega)
  have fin : ∀ (cb : Nat) (q : vw_C) (t0 : Nat), (bf_kd b).1 = cb → vwCl[cb]? = some q → ([(E.2.2.2.2.2 9, FieldType.int), (E.2.2.2.2.2 10, .object RX3), (E.2.2.2.2.2 11, .object RX5)] : List (ClassId × FieldType))[t0]? = some (E.2.2.2.2.2 ci, .object q.1) → W p l e R s m args below meth c H locs (G.1 - N0) (bf_SL G.1 - bf_SL N0) Q (F0 m pc ls ((Value.ref b :: .int i :: .ref a :: S).map (bf_cv (bf_ad E)))) := by
    intro cb q t0 hkb hq ht
    have hcb : cb < 9 := (List.getElem?_eq_some_iff.mp hq).1
    obtain ⟨cellV, g1, g2, g3, -⟩ := (hH.2.2 b hb).obj hkb hcb
    have hcls := (X.2.2.2.2.2.1.1.1 cb _ hq).2
    obtain ⟨kA, comp, k1, k2, k3, -⟩ := (X.2.2.2.2.2.1.1.2 t0 _ ht).2
    have hcomp : comp = E.2.2.2.1 cb := Option.some.inj (k3.symm.trans hcls.1)
    subst hcomp
    obtain ⟨kC, hkC, -⟩ := id hcls.2
    refine W.aast X.1 X.2.1 hcc (fun q h => by cases h) (fun h => by cases h) k1 k2 rfl hkC ⟨h0, by rw [arrV_size]; exact hlt⟩ g1 (fun q h => by rw [g3] at h; cases h) (by rw [g2]; exact hkC) (by rw [g2]; exact va_assign hcls) rfl rfl dd fun H1 e1 z1 o1 => ?_
    refine k H1 _ ls (hH.put ha z1 o1 ?_ (fun b j hb => by simp [bf_up, hb])) (bf_S.put hS z1 o1 (Nat.lt_of_lt_of_le ha hH.1)) hl hN
    unfold bf_C
    rw [hk, if_neg (show ¬ ci < 9 by omega), e1, arrV_store]
    congr 2
    funext j
    by_cases hj : j = i.toNatClampNeg
    · simp [updV, bf_up, hj, bf_cv]
    · simp [updV, bf_up, hj]
  rcases hc with ⟨rfl, hb3⟩ | ⟨rfl, hb5⟩
  · exact fin 3 _ 1 hb3 rfl rfl
  · exact fin 5 _ 2 hb5 rfl rfl
theorem jw_acopy {C : bf_CR} {d n' : Nat} (X : bf_X p s m args c E nL y) (Y : bf_Y R C d n' N0) : bf_r_acopy y (bf_JW p l e R s m args below meth c E nL N0 Q) := by
  intro pc L S G i a0 a1 n0 n1 f g sp dp n dd hw hk0 hk1 ha0 ha1 hf hg h1 h2 h3 h4 h5 hsum k
  intro H locs ls hH hS hl hN
  have hc0 : H[bf_ad E a0]? = some (vp_cell (E.2.2.2.2.2 9) (n0, .inl f)) := by
    rw [(hH.2.2 a0 ha0).arr hk0 (by decide), vp_cell_i]
    congr 2
    funext j
    rw [hf j]
    rfl
  have hc1 : H[bf_ad E a1]? = some (vp_cell (E.2.2.2.2.2 9) (n1, .inl g)) := by
    rw [(hH.2.2 a1 ha1).arr hk1 (by decide), vp_cell_i]
    congr 2
    funext j
    rw [hg j]
    rfl
  have nn : ∀ z : Int32, ¬ z < 0 → z.toInt = (z.toNatClampNeg : Int) := by
    intro z hz
    have hz0 : (0 : Int) ≤ z.toInt := by
      have := Int32.not_lt.mp hz
      simpa using Int32.le_iff_toInt_le.mp this
    show z.toInt = ((z.toInt.toNat : Nat) : Int)
    omega
  have hKI := (X.2.2.2.2.2.1.1.2 0 _ rfl).1
  intro T hT XX
  obtain ⟨-, k0, hkk0, cm0, hkd0⟩ := hKI n0 (fun j => .int (f j))
  have hlocals : ((S.map (bf_cv (bf_ad E))).map fun v => v.category).sum + (nativeFrameWords "java/lang/System" "arraycopy" 5 + 11) ≤ R.locals := by
    rw [bf_cat_sum]
    have := Y.2.1
    have e : nativeFrameWords "java/lang/System" "arraycopy" 5 + 11 ≤ 50 := by decide +kernel
    omega
  obtain ⟨vm', X', step⟩ := XX.arraycopy X.1 X.2.2.2.1 (X.2.2.2.2.1 _ hw rfl) (X.2.2.2.2.1 _ (bf_mt 524 (by decide +kernel)) rfl) (X.2.2.2.2.1 _ (bf_mt 523 (by decide +kernel)) rfl) (X.2.2.2.2.1 _ (bf_mt 13 (by decide +kernel)) rfl) (src := bf_ad E a0) (dst := bf_ad E a1) (cs := vp_cell (E.2.2.2.2.2 9) (n0, .inl f)) (cd := vp_cell (E.2.2.2.2.2 9) (n1, .inl g)) (srcPos := sp) (destPos := dp) (n := n) (by rw [hT]; exact hc0) (by rw [hT]; exact hc1)
    (fun _ h => by cases h) (fun _ h => by cases h) (fun h => by cases h) (fun h => by cases h) hkk0 hkk0 hkd0 hkd0 (by simp [refKind]) h1 h2 h3
    (by rw [nn sp h1, nn n h3]; show ¬ _ > ((arrV _ n0 (fun j => .int (f j))).slots.size : Int); rw [arrV_size]; omega)
    (by rw [nn dp h2, nn n h3]; show ¬ _ > ((arrV _ n1 (fun j => .int (g j))).slots.size : Int); rw [arrV_size]; omega)
    (fun vm₁ _ i hi => by
      have e : (vp_cell (E.2.2.2.2.2 9) (n0, .inl f)).slots.getD (sp.toNatClampNeg + i) .null = .int (f (sp.toNatClampNeg + i)) := by
        show (arrV _ n0 (fun j => .int (f j))).slots.getD _ _ = _
        rw [Array.getD_eq_getD_getElem?, arrV_read _ _ (by omega)]
        rfl
      refine ⟨?_, ?_⟩
      · rw [e]
        rfl
      · rw [e]
        exact trivial)
    (g := F0 m pc ls ((Value.int n :: .int dp :: .ref a1 :: .int sp :: .ref a0 :: S).map (bf_cv (bf_ad E)))) rfl (hl.1.trans X.2.2.1.symm) (rest := S.map (bf_cv (bf_ad E))) rfl (by rw [X.2.1]; exact dd) (by have := Y.1; omega) (by show 2 * 0 + _ + _ ≤ _; omega)
  have e1 : copied (vp_cell (E.2.2.2.2.2 9) (n0, .inl f)) (vp_cell (E.2.2.2.2.2 9) (n1, .inl g)) sp dp n = vp_cell (E.2.2.2.2.2 9) (n1, .inl (va_cpy f g sp.toNatClampNeg dp.toNatClampNeg n.toNatClampNeg)) := va_copied (fun z => .int z) _ _ f g h4
  rw [e1] at X' step
  have hlt : bf_ad E a1 < H.size := (Array.getElem?_eq_some_iff.mp hc1).1
  have hheap : ((T.setVm vm').setCell (bf_ad E a1) (vp_cell (E.2.2.2.2.2 9) (n1, .inl (va_cpy f g sp.toNatClampNeg dp.toNatClampNeg n.toNatClampNeg)))).heap = H.setIfInBounds (bf_ad E a1) (vp_cell (E.2.2.2.2.2 9) (n1, .inl (va_cpy f g sp.toNatClampNeg dp.toNatClampNeg n.toNatClampNeg))) := by rw [← hT]; rfl
  have oq : ∀ q : Nat, q ≠ bf_ad E a1 → (H.setIfInBounds (bf_ad E a1) (vp_cell (E.2.2.2.2.2 9) (n1, .inl (va_cpy f g sp.toNatClampNeg dp.toNatClampNeg n.toNatClampNeg))))[q]? = H[q]? := fun q hq => by simp [Array.getElem?_setIfInBounds, Ne.symm hq]
  have hbA : E.1 ≤ bf_ad E a1 := by rw [bf_ad_lt E (by have := hH.1; omega)]; omega
  obtain ⟨t, r1, r2⟩ := k _ _ ls (hH.put ha1 (by simp) oq (by
      unfold bf_C
      rw [hk1, if_neg (by simp)]
      simp only [Array.getElem?_setIfInBounds, hlt]
      simp [bf_fill, bf_cv, vp_cell_i]) (fun b j hb => by simp [bf_fill, hb])) ⟨by simp; exact hS.1, fun q g1 g2 => by
      rw [oq q (fun e => g2 (by rw [e]; exact hbA))]
      exact hS.2.1 q g1 g2, fun q hq => by
      rcases List.mem_append.mp hq with h | h
      · exact hS.2.2 q h
      · obtain ⟨z, -, hz⟩ := List.mem_map.mp h
        rw [← hz]
        exact hbA⟩ hl hN _ hheap X'
  exact ⟨t, step t r1, r2⟩
theorem jw_putF (X : bf_X p s m args c E nL y) (hnm : meth.name = y.1.name) : bf_r_putF y (bf_JW p l e R s m args below meth c E nL N0 Q) := by
  intro pc L S G i ci j a b dd hf hy hk ha k
  intro H locs ls hH hS0 hl hN
  obtain ⟨q, hq, hj, hd, hown, hfin, ⟨ty, hty0, htR⟩, hw⟩ := hf
  have hci : ci < 9 := (List.getElem?_eq_some_iff.mp hq).1
  obtain ⟨cell, q1, q2, q3, q4⟩ := (hH.2.2 a ha).obj hk hci
  obtain ⟨ty0, hin, hty, hnm2⟩ := bf_cls_of hq
  have hts := fun w hw => X.2.2.2.2.1 w (hin w hw) (bf_gw hw)
  have hn : (bf_kd a).2 = q.2.2 := bf_kd_sz hk hq (Nat.lt_of_lt_of_le ha hH.1)
  obtain ⟨hS, hfc, kC, hkC, hkind⟩ := X.2.2.2.2.2.1.1.1 ci _ hq
  obtain ⟨cf, kf, fi, f, hi, hsl⟩ := hS j hj
  have hst := (u_facts hfc hkC (u_lays (ws := u_ws q.1 q.2.1 q.2.2) hts (fun w h => h) hj) hi).1
  have hlay := hts _ (u_in_lay (C := q.1) (T := q.2.1) hj)
  unfold u_lay at hlay
  rw [if_pos hfin] at hlay
  have hcf : m.cls = cf := by
    obtain ⟨_, _, c', _, _, _, -, -, hf', -, -, -, hown2, -⟩ := Cond.laysFinal_spec hlay
    have e1 : c' = cf := by have := hi.symm.trans hf'; simp at this; exact this.1.symm
    rw [hd, hown] at hown2
    rw [← e1]; exact Option.some.inj (X.2.2.2.1.symm.trans hown2)
  have hnar : narrow ty (.ref (bf_ad E b)) = .ref (bf_ad E b) := by cases ty <;> first | rfl | cases htR
  have hfit : fits ty (.ref (bf_ad E b)) = true := by cases ty <;> first | rfl | cases htR
  have h6 := u_fits (v := .ref (bf_ad E b)) hfc hkC hkind (Or.inr hlay) hi hty0 hnar hfit
  have hi2 : s.fieldFound? q.1 (q.2.1 j).2.1 (q.2.1 j).2.2.1 = some (cf, kf, fi, f) := by rw [← hd]; exact hi
  have hlt : f.slot < cell.slots.size := by rw [hsl]; exact k2_hasslot (q4 j (by rw [hn]; exact hj))
  refine W.putFinK X.1 X.2.1 X.2.2.2.1 (X.2.2.2.2.1 _ hw rfl) hi2 hst hcf (hnm.trans hy) (by rw [q2]; exact h6) q1 q3 hlt rfl rfl dd fun H1 e1 z1 o1 => ?_
  refine k H1 _ ls (hH.put ha z1 o1 ?_ (fun b j hb => by simp [bf_up, hb])) (bf_S.put hS0 z1 o1 (Nat.lt_of_lt_of_le ha hH.1)) hl hN
  rw [hsl] at e1
  exact bf_obj_set (v := .ref b) X ⟨hq, hin, hty, hnm2⟩ hk hci ha hH hj q2 q3 q4 e1
theorem jw_mmax {C : bf_CR} {d n' : Nat} (X : bf_X p s m args c E nL y) (Y : bf_Y R C d n' N0) : bf_r_mmax n' y (bf_JW p l e R s m args below meth c E nL N0 Q) := by
  intro pc L S G i x z dd hw hle hsum k
  intro H locs ls hH hS hl hN
  have hcells := bf_cellsH Y hN (Nat.le_refl _) hle
  have h1 := Y.1
  have h2 := Y.2.1
  exact va_mmax X.1 X.2.1 (X.2.2.1.trans hl.1.symm) X.2.2.2.1 (X.2.2.2.2.1 _ hw rfl) (X.2.2.2.2.1 _ (bf_mt 266 (by decide +kernel)) rfl) (X.2.2.2.2.1 _ (bf_mt 11 (by decide +kernel)) rfl) (X.2.2.2.2.1 _ (bf_mt 267 (by decide +kernel)) rfl) (by omega) (by rw [bf_cat_sum]; omega) (by have := hcells.1.1; omega) (by have := hcells.1.2; omega) dd (k H locs ls hH hS hl hN)
theorem jw_mmin {C : bf_CR} {d n' : Nat} (X : bf_X p s m args c E nL y) (Y : bf_Y R C d n' N0) : bf_r_mmin n' y (bf_JW p l e R s m args below meth c E nL N0 Q) := by
  intro pc L S G i x z dd hw hle hsum k
  intro H locs ls hH hS hl hN
  have hcells := bf_cellsH Y hN (Nat.le_refl _) hle
  have h1 := Y.1
  have h2 := Y.2.1
  exact va_mmin X.1 X.2.1 (X.2.2.1.trans hl.1.symm) X.2.2.2.1 (X.2.2.2.2.1 _ hw rfl) (X.2.2.2.2.1 _ (bf_mt 263 (by decide +kernel)) rfl) (X.2.2.2.2.1 _ (bf_mt 11 (by decide +kernel)) rfl) (X.2.2.2.2.1 _ (bf_mt 264 (by decide +kernel)) rfl) (by omega) (by rw [bf_cat_sum]; omega) (by have := hcells.1.1; omega) (by have := hcells.1.2; omega) dd (k H locs ls hH hS hl hN)
end bfD
end
section
def bf_Ru2 (C : bf_CR) (n' : Nat) (y : bf_M) (J : bf_J) : Prop := bf_r_callv C n' y J ∧ bf_r_calls C n' y J ∧ bf_r_calli C n' y J ∧ bf_r_obj y J ∧ bf_r_new n' y J ∧ bf_r_newa n' y J ∧ bf_r_anew n' y J ∧ bf_r_aast y J ∧ bf_r_acopy y J ∧ bf_r_mmax n' y J ∧ bf_r_mmin n' y J
def bf_Ru3 (n' : Nat) (Post : bf_P) (y : bf_M) (J : bf_J) : Prop := bf_r_putF y J ∧ bf_r_iret n' Post y J ∧ bf_r_lret n' Post y J ∧ bf_r_vret n' Post y J
/-- all rules of a method's walk -/
def bf_All (C : bf_CR) (n' : Nat) (Post : bf_P) (y : bf_M) (J : bf_J) : Prop := bf_Ru y J ∧ bf_Ru2 C n' y J ∧ bf_Ru3 n' Post y J
def bf_sl : List Value → bf_L
  | [] => []
  | v :: vs => match v.category with
    | 2 => some v :: none :: bf_sl vs
    | _ => some v :: bf_sl vs
def bf_ini (nL : Nat) (vs : List Value) : bf_L := bf_sl vs ++ List.replicate (nL - (bf_sl vs).length) none
/-- a call, to a depth: whatever obeys the rules, holds at the method's entry -/
def bf_Cl : Nat → bf_CR
  | 0 => fun _ _ _ _ _ => False
  | d + 1 => fun y vs G n' Post => (Cond.code y.1 y.2.1 y.2.2.1 y.2.2.2 ∈ lw_tbl ∧ plainName y.1.cls = true) ∧ G.1 ≤ n' ∧ n' ≤ 57 ∧ (bf_sl vs).length ≤ y.2.2.1 ∧ ∀ J : bf_J, bf_All (bf_Cl d) n' Post y J → J 0 (bf_ini y.2.2.1 vs) [] G
theorem bf_sl_len (ad : Nat → Nat) (vs : List Value) : (lg_sl (vs.map (bf_cv ad))).length = (bf_sl vs).length := by
  induction vs with
  | nil => rfl
  | cons v vs ih =>
    have h := bf_cat ad v
    simp only [lg_sl, List.map_cons, List.flatMap_cons, List.length_append] at ih ⊢
    rw [ih]
    rcases lv_cat v with hc | hc
    · simp only [h, hc, bf_sl]
      simp
      omega
    · simp only [h, hc, bf_sl]
      simp
      omega
theorem bf_sl_mem (ad : Nat → Nat) : ∀ (vs : List Value) (k i : Nat) (v : Value), (bf_sl vs)[i]? = some (some v) → (k + i, bf_cv ad v) ∈ lv_args k (vs.map (bf_cv ad)) := by
  intro vs
  induction vs with
  | nil => intro k i v h; simp [bf_sl] at h
  | cons w vs ih =>
    intro k i v h
    have hcat := bf_cat ad w
    rcases lv_cat w with hc | hc
    · simp only [bf_sl, hc] at h
      simp only [List.map_cons, lv_args, hcat, hc]
      cases i with
      | zero => simp at h; subst h; exact List.mem_cons_self
      | succ i =>
        rw [List.getElem?_cons_succ] at h
        have := ih (k + 1) i v h
        rw [show k + (i + 1) = k + 1 + i by omega]
        exact List.mem_cons_of_mem _ (by simpa using this)
    · simp only [bf_sl, hc] at h
      simp only [List.map_cons, lv_args, hcat, hc]
      cases i with
      | zero => simp at h; subst h; exact List.mem_cons_self
      | succ i =>
        rw [List.getElem?_cons_succ] at h
        cases i with
        | zero => simp at h
        | succ i =>
          rw [List.getElem?_cons_succ] at h
          have := ih (k + 2) i v h
          rw [show k + (i + 1 + 1) = k + 2 + i by omega]
          exact List.mem_cons_of_mem _ (by simpa using this)
theorem bf_lr_entry (E : bf_E) {nL : Nat} {vs : List Value} (h : (bf_sl vs).length ≤ nL) : bf_lr E nL (bf_ini nL vs) ((lg_sl (vs.map (bf_cv (bf_ad E))) ++ List.replicate (nL - (lg_sl (vs.map (bf_cv (bf_ad E)))).length) Slot.unset).toArray) := by
  have hl := lv_entry (vs.map (bf_cv (bf_ad E))) (n := nL) (by rw [bf_sl_len]; exact h)
  refine ⟨hl.1, hl.2.1, ?_, fun i v hi => ?_⟩
  · simp [bf_ini]; omega
  · refine hl.2.2 (i, _) ?_
    have h2 : (bf_sl vs)[i]? = some (some v) := by
      unfold bf_ini at hi
      by_cases hlt : i < (bf_sl vs).length
      · rw [List.getElem?_append_left hlt] at hi; exact hi
      · rw [List.getElem?_append_right (by omega), List.getElem?_replicate] at hi
        split at hi
        · cases hi
        · cases hi
    have := bf_sl_mem (bf_ad E) vs 0 i v h2
    rwa [Nat.zero_add] at this
theorem jw_All {p : Program} {l : Launch} {e : Env} {R : Room} {s : State} {m : MethodId} {args : Array Value} {below : List Frame} {meth : Method} {c : Code} {E : bf_E} {nL N0 : Nat} {Q : State → Prop} {y : bf_M} {C : bf_CR} {d n' : Nat} (X : bf_X p s m args c E nL y) (Y : bf_Y R C d n' N0) : bf_Ru2 C n' y (bf_JW p l e R s m args below meth c E nL N0 Q) :=
  ⟨jw_callv X Y, jw_calls X Y, jw_calli X Y, jw_obj X Y, jw_new X Y, jw_newa X Y, jw_anew X Y, jw_aast X, jw_acopy X Y, jw_mmax X Y, jw_mmin X Y⟩
theorem bf_sound : ∀ (d : Nat) (y : bf_M) (vs : List Value) (G : bf_G) (n' : Nat) (Post : bf_P), bf_Cl d y vs G n' Post → bf_MT d y vs G n' Post ∧ G.1 ≤ n' := by
  intro d
  induction d with
  | zero => intro y vs G n' Post h; exact h.elim
  | succ d ih =>
    intro y vs G n' Post h
    obtain ⟨⟨hcode, hplain⟩, hle, h57, hlen, hJ⟩ := h
    refine ⟨fun l E => ?_, hle⟩
    refine Met.ofW (cc := y.2.1) (maxL := y.2.2.1) (ret := y.2.2.2) hplain rfl ?_
    intro p e s m args below meth c s₁ B hml hv
    obtain ⟨rfl, hH, hK, hST⟩ := hv
    have hts := atoms_spec (ws := bf_ws y) B.pre
    have hown : s.vm.findClass y.1.cls = some m.cls := findClass_of_methodNamed B.named
    have hnm : meth.name = y.1.name := (name_of_methodNamed B.named B.method).1
    have hlocks := B.notSynchronized
    have hr := B.returns
    have X : bf_X p s m (vs.map (bf_cv (bf_ad E))).toArray c E y.2.2.1 y := ⟨B.exec, B.bytes, hml, hown, fun w hw hg => hts w (List.mem_cons_of_mem _ (List.mem_filter.mpr ⟨hw, hg⟩)), hK, hST⟩
    have Y : bf_Y (bf_rm (d + 1) G.1 n') (bf_Cl d) d n' G.1 := ⟨Nat.le_refl _, by show 60 * d + 60 ≤ 60 * (d + 1); omega, Nat.le_refl _, Nat.le_refl _, h57, ih⟩
    rw [lg_entry_eq]
    have key := hJ (bf_JW p l e (bf_rm (d + 1) G.1 n') s m (vs.map (bf_cv (bf_ad E))).toArray below meth c E y.2.2.1 G.1 (MQ below (bf_Qc E n' Post) (vs.map (bf_cv (bf_ad E))).toArray s (n' - G.1) (bf_SL n' - bf_SL G.1) (bf_A E))) ⟨jw_Ru X, jw_All X Y, jw_putF X hnm, ?_, ?_, ?_⟩
    · have h0 := key s.heap [] _ hH va_S.rf (bf_lr_entry E hlen) (Nat.le_refl _)
      rw [Nat.sub_self, Nat.sub_self] at h0
      exact h0
    · intro pc L G' v ty dd hty hn hG hp
      intro H locs ls hH' hS hl hN
      subst hG
      exact W.zret B.exec B.bytes (hr.trans hty) hn (fun t ht hW => ⟨⟨some (.int v), G', rfl, hp, rfl, by rw [ht]; exact hH'⟩, hS.F ht⟩) hS.2.2 dd
    · intro pc L G' v dd hty hG hp
      intro H locs ls hH' hS hl hN
      subst hG
      exact W.lret B.exec B.bytes (hr.trans hty) (fun t ht hW => ⟨⟨some (.long v), G', rfl, hp, rfl, by rw [ht]; exact hH'⟩, hS.F ht⟩) hS.2.2 dd
    · intro pc L G' dd hty hG hp
      intro H locs ls hH' hS hl hN
      subst hG
      exact W.vret B.exec B.bytes (hr.trans hty) (fun t ht hW => ⟨⟨none, G', rfl, hp, rfl, by rw [ht]; exact hH'⟩, hS.F ht⟩) hS.2.2 dd
theorem bf_Cl_mono : ∀ (d : Nat) (y : bf_M) (vs : List Value) (G : bf_G) (n' : Nat) (Post : bf_P), bf_Cl d y vs G n' Post → bf_Cl (d + 1) y vs G n' Post := by
  intro d
  induction d with
  | zero => intro y vs G n' Post h; exact h.elim
  | succ d ih =>
    intro y vs G n' Post h
    obtain ⟨h1, h2, h3, h4, hJ⟩ := h
    refine ⟨h1, h2, h3, h4, fun J hA => hJ J ⟨hA.1, ⟨?_, ?_, ?_, hA.2.1.2.2.2⟩, hA.2.2⟩⟩
    · intro pc L S S0 G i y2 ci n a vs n1 P1 dd a1 a2 a3 a4 a5 a6 a7 hC a8 k
      exact hA.2.1.1 pc L S S0 G i y2 ci n a vs n1 P1 dd a1 a2 a3 a4 a5 a6 a7 (ih _ _ _ _ _ hC) a8 k
    · intro pc L S S0 G i y2 n vs n1 P1 dd a1 a2 a5 a6 a7 hC a8 k
      exact hA.2.1.2.1 pc L S S0 G i y2 n vs n1 P1 dd a1 a2 a5 a6 a7 (ih _ _ _ _ _ hC) a8 k
    · intro pc L S S0 G i y2 n a vs n1 P1 dd a1 a2 a5 a6 a7 hC a8 k
      exact hA.2.1.2.2.1 pc L S S0 G i y2 n a vs n1 P1 dd a1 a2 a5 a6 a7 (ih _ _ _ _ _ hC) a8 k
theorem bf_Cl_le {d d' : Nat} (h : d ≤ d') {y : bf_M} {vs : List Value} {G : bf_G} {n' : Nat} {Post : bf_P} (hC : bf_Cl d y vs G n' Post) : bf_Cl d' y vs G n' Post := by
  induction h with
  | refl => exact hC
  | step _ ih => exact bf_Cl_mono _ _ _ _ _ _ ih
theorem bf_Cl_post {y : bf_M} {vs : List Value} {G : bf_G} {n' : Nat} {P P' : bf_P} (d : Nat) (hC : bf_Cl d y vs G n' P) (h : ∀ r G', P r G' → P' r G') : bf_Cl d y vs G n' P' := by
  cases d with
  | zero => exact hC
  | succ d =>
    obtain ⟨h1, h2, h3, h4, hJ⟩ := hC
    refine ⟨h1, h2, h3, h4, fun J hA => hJ J ⟨hA.1, hA.2.1, hA.2.2.1, ?_, ?_, ?_⟩⟩
    · intro pc L G' v ty dd a1 a2 a3 hp
      exact hA.2.2.2.1 pc L G' v ty dd a1 a2 a3 (h _ _ hp)
    · intro pc L G' v dd a1 a2 hp
      exact hA.2.2.2.2.1 pc L G' v dd a1 a2 (h _ _ hp)
    · intro pc L G' dd a1 a2 hp
      exact hA.2.2.2.2.2 pc L G' dd a1 a2 (h _ _ hp)
end
section
abbrev bf_D : Type := Nat → Nat → Int32
/-- which places hold references: 1 more than the cell; 0: an int -/
def bf_rtL : List (List Nat) := [[2, 3, 19, 23, 25], [30, 32, 34, 36], [4], [7, 10, 13, 16], [6], [], [5, 8, 9], [], [], [5, 11, 12], [], [], [5, 14, 15], [], [], [5, 17, 18], [], [], [20, 21, 22], [], [], [], [24], [], [26, 27, 28, 29], [], [], [], [], [31], [], [33], [], [35], [], [37], [], [0, 0, 0, 0, 39, 40, 41, 42, 0, 0, 43, 44, 45, 0, 46, 47, 48, 49, 50, 0, 51, 52, 53, 54, 55, 56, 57, 0], [], [], [], [], [], [], [], [], [], [], [], [], [], [], [], [], [], [], []]
def bf_rt (a j : Nat) : Nat := (bf_rtL.getD a []).getD j 0
def bf_mk (D : bf_D) : bf_Hp := fun a j => match bf_rt a j with
  | 0 => .int (D a j)
  | b + 1 => .ref b
def bf_MD (D : bf_D) : bf_G := (57, bf_mk D)
def bf_u (D : bf_D) (a j : Nat) (v : Int32) : bf_D := fun b i => if b = a then (if i = j then v else D b i) else D b i
theorem bf_mk0 {D : bf_D} {a j : Nat} (h : bf_rt a j = 0) : bf_mk D a j = .int (D a j) := by simp [bf_mk, h]
theorem bf_mkr {D : bf_D} {a j b : Nat} (h : bf_rt a j = b + 1) : bf_mk D a j = .ref b := by simp [bf_mk, h]
theorem bf_mk_up {D : bf_D} {a j : Nat} {v : Int32} (h : bf_rt a j = 0) : bf_up (bf_mk D) a j (.int v) = bf_mk (bf_u D a j v) := by
  funext b i
  by_cases hb : b = a
  · subst hb
    by_cases hi : i = j
    · subst hi
      simp [bf_up, bf_mk, bf_u, h]
    · simp [bf_up, bf_mk, bf_u, hi]
  · simp [bf_up, bf_mk, bf_u, hb]
theorem bf_rt9 {a n : Nat} (hk : bf_kd a = (9, n)) (ha : a < 57) (j : Nat) : bf_rt a j = 0 := by
  have key : ∀ a, a < 57 → (bf_kd a).1 = 9 → bf_rtL.getD a [] = [] := by decide +kernel
  have h := key a ha (by rw [hk])
  unfold bf_rt
  rw [h]
  rfl
theorem bf_kdn {a ci n : Nat} (hk : bf_kd a = (ci, n)) (ha : a < 57) : n ≤ 240 := by
  have key : ∀ a, a < 57 → (bf_kd a).2 ≤ 240 := by decide +kernel
  have h := key a ha
  rw [hk] at h
  exact h
theorem bf_us {D : bf_D} {a j : Nat} {v : Int32} : bf_u D a j v a j = v := by simp [bf_u]
theorem bf_un {D : bf_D} {a j b i : Nat} {v : Int32} (h : b ≠ a ∨ i ≠ j) : bf_u D a j v b i = D b i := by
  rcases h with h | h
  · simp [bf_u, h]
  · by_cases e : b = a <;> simp [bf_u, h, e]
section bfI
variable {C : bf_CR} {Post : bf_P} {y : bf_M} {J : bf_J} {pc : Nat} {L : bf_L} {S : List Value} {D : bf_D} {G : bf_G}
theorem ig_int (r : bf_All C 57 Post y J) {i ci j a : Nat} {v : Int32} (d : decode y.2.1 pc = .ok (.getfield i, 3)) (hf : bf_fl y.1.cls i ci j) (hk : (bf_kd a).1 = ci) (ha : a < 57) (ht : bf_rt a j = 0) (hv : D a j = v) (k : J (pc + 3) L (.int v :: S) (bf_MD D)) : J pc L (.ref a :: S) (bf_MD D) :=
  bf_get r.1 d hf hk ha (by show J _ _ (bf_mk D a j :: S) _; rw [bf_mk0 ht, hv]; exact k)
theorem ig_ref (r : bf_All C 57 Post y J) {i ci j a b : Nat} (d : decode y.2.1 pc = .ok (.getfield i, 3)) (hf : bf_fl y.1.cls i ci j) (hk : (bf_kd a).1 = ci) (ha : a < 57) (ht : bf_rt a j = b + 1) (k : J (pc + 3) L (.ref b :: S) (bf_MD D)) : J pc L (.ref a :: S) (bf_MD D) :=
  bf_get r.1 d hf hk ha (by show J _ _ (bf_mk D a j :: S) _; rw [bf_mkr ht]; exact k)
theorem ip_int (r : bf_All C 57 Post y J) {i ci j a : Nat} {v : Int32} (d : decode y.2.1 pc = .ok (.putfield i, 3)) (hf : bf_fp y.1.cls i ci j) (hk : (bf_kd a).1 = ci) (ha : a < 57) (ht : bf_rt a j = 0) (k : J (pc + 3) L S (bf_MD (bf_u D a j v))) : J pc L (.int v :: .ref a :: S) (bf_MD D) :=
  bf_put r.1 d hf hk ha (by show J _ _ S (57, bf_up (bf_mk D) a j (.int v)); rw [bf_mk_up ht]; exact k)
theorem ia_ld (r : bf_All C 57 Post y J) {a n i : Nat} {v : Int32} (d : decode y.2.1 pc = .ok (.iaload, 1)) (hk : bf_kd a = (9, n)) (ha : a < 57) (hi : i < n) (hv : D a i = v) (k : J (pc + 1) L (.int v :: S) (bf_MD D)) : J pc L (.int (nI i) :: .ref a :: S) (bf_MD D) :=
  have hn := bf_kdn hk ha
  bf_iald r.1 d hk ha (vp_in_nI hi (by omega)) (by show J _ _ (bf_mk D a _ :: S) _; rw [nI_clamp (by omega), bf_mk0 (bf_rt9 hk ha i), hv]; exact k)
theorem ia_st (r : bf_All C 57 Post y J) {a n i : Nat} {v : Int32} (d : decode y.2.1 pc = .ok (.iastore, 1)) (hk : bf_kd a = (9, n)) (ha : a < 57) (hi : i < n) (k : J (pc + 1) L S (bf_MD (bf_u D a i v))) : J pc L (.int v :: .int (nI i) :: .ref a :: S) (bf_MD D) :=
  have hn := bf_kdn hk ha
  bf_iast r.1 d hk ha (vp_in_nI hi (by omega)) (by show J _ _ S (57, bf_up (bf_mk D) a _ (.int v)); rw [nI_clamp (by omega), bf_mk_up (bf_rt9 hk ha i)]; exact k)
theorem aa_ld (r : bf_All C 57 Post y J) {a ci n i b : Nat} (d : decode y.2.1 pc = .ok (.aaload, 1)) (hc : ci = 10 ∨ ci = 11) (hk : bf_kd a = (ci, n)) (ha : a < 57) (hi : i < n) (ht : bf_rt a i = b + 1) (k : J (pc + 1) L (.ref b :: S) (bf_MD D)) : J pc L (.int (nI i) :: .ref a :: S) (bf_MD D) :=
  have hn := bf_kdn hk ha
  bf_aald r.1 d hc hk ha (vp_in_nI hi (by omega)) (by show bf_mk D a _ = _; rw [nI_clamp (by omega), bf_mkr ht]) k
theorem al_en (r : bf_All C 57 Post y J) {a n : Nat} (d : decode y.2.1 pc = .ok (.arraylength, 1)) (hk : bf_kd a = (9, n)) (ha : a < 57) (k : J (pc + 1) L (.int (nI n) :: S) (bf_MD D)) : J pc L (.ref a :: S) (bf_MD D) := bf_alen r.1 d hk ha rfl k
/-- the value on top, said otherwise -/
theorem eq_i {x v : Int32} (h : x = v) (k : J pc L (.int v :: S) G) : J pc L (.int x :: S) G := by rw [h]; exact k
theorem eq_l {x v : Int64} (h : x = v) (k : J pc L (.long v :: S) G) : J pc L (.long x :: S) G := by rw [h]; exact k
theorem na_add (r : bf_All C 57 Post y J) {x z : Nat} (d : decode y.2.1 pc = .ok (.iadd, 1)) (k : J (pc + 1) L (.int (nI (x + z)) :: S) G) : J pc L (.int (nI z) :: .int (nI x) :: S) G := bf_iadd r.1 d (by rw [nI_add]; exact k)
theorem na_sub (r : bf_All C 57 Post y J) {x z : Nat} (d : decode y.2.1 pc = .ok (.isub, 1)) (h : z ≤ x) (k : J (pc + 1) L (.int (nI (x - z)) :: S) G) : J pc L (.int (nI z) :: .int (nI x) :: S) G := bf_isub r.1 d (by rw [pk_sub h]; exact k)
theorem na_mul (r : bf_All C 57 Post y J) {x z : Nat} (d : decode y.2.1 pc = .ok (.imul, 1)) (k : J (pc + 1) L (.int (nI (x * z)) :: S) G) : J pc L (.int (nI z) :: .int (nI x) :: S) G := bf_imul r.1 d (by rw [pk_mul]; exact k)
theorem na_div (r : bf_All C 57 Post y J) {x z : Nat} (d : decode y.2.1 pc = .ok (.idiv, 1)) (hx : x < 2 ^ 31) (h0 : 0 < z) (hz : z < 2 ^ 31) (k : J (pc + 1) L (.int (nI (x / z)) :: S) G) : J pc L (.int (nI z) :: .int (nI x) :: S) G := bf_idiv r.1 d (nI_ne0 h0 hz) (by rw [pk_div hx h0 hz]; exact k)
theorem na_rem (r : bf_All C 57 Post y J) {x z : Nat} (d : decode y.2.1 pc = .ok (.irem, 1)) (hx : x < 2 ^ 31) (h0 : 0 < z) (hz : z < 2 ^ 31) (k : J (pc + 1) L (.int (nI (x % z)) :: S) G) : J pc L (.int (nI z) :: .int (nI x) :: S) G := bf_irem r.1 d (nI_ne0 h0 hz) (by rw [pk_rem hx h0 hz]; exact k)
theorem bf_andN (a b : Nat) : nI a &&& nI b = nI (a &&& b) := by
  apply Int32.toBitVec_inj.mp
  show BitVec.ofNat 32 a &&& BitVec.ofNat 32 b = BitVec.ofNat 32 (a &&& b)
  exact (BitVec.ofNat_and ..).symm
theorem bf_orN (a b : Nat) : nI a ||| nI b = nI (a ||| b) := by
  apply Int32.toBitVec_inj.mp
  show BitVec.ofNat 32 a ||| BitVec.ofNat 32 b = BitVec.ofNat 32 (a ||| b)
  exact (BitVec.ofNat_or ..).symm
theorem bf_xorN (a b : Nat) : nI a ^^^ nI b = nI (a ^^^ b) := by
  apply Int32.toBitVec_inj.mp
  show BitVec.ofNat 32 a ^^^ BitVec.ofNat 32 b = BitVec.ofNat 32 (a ^^^ b)
  exact (BitVec.ofNat_xor ..).symm
theorem na_and (r : bf_All C 57 Post y J) {x z : Nat} (d : decode y.2.1 pc = .ok (.iand, 1)) (k : J (pc + 1) L (.int (nI (x &&& z)) :: S) G) : J pc L (.int (nI z) :: .int (nI x) :: S) G := bf_iand r.1 d (by rw [bf_andN]; exact k)
theorem na_or (r : bf_All C 57 Post y J) {x z : Nat} (d : decode y.2.1 pc = .ok (.ior, 1)) (k : J (pc + 1) L (.int (nI (x ||| z)) :: S) G) : J pc L (.int (nI z) :: .int (nI x) :: S) G := bf_ior r.1 d (by rw [bf_orN]; exact k)
theorem na_xor (r : bf_All C 57 Post y J) {x z : Nat} (d : decode y.2.1 pc = .ok (.ixor, 1)) (k : J (pc + 1) L (.int (nI (x ^^^ z)) :: S) G) : J pc L (.int (nI z) :: .int (nI x) :: S) G := bf_ixor r.1 d (by rw [bf_xorN]; exact k)
theorem bf_m31 {z : Nat} (hz : z < 32) : nI z &&& 31 = nI z := by
  have h := pk_andN (n := z) (by omega) (m := 31) 5 (by decide)
  rw [h]
  congr 1
  omega
theorem bf_smod {z : Nat} (hz : z < 32) : ((nI z).toBitVec.smod 32).toNat = z := by
  have key : ∀ z : Fin 32, ((nI z.val).toBitVec.smod 32).toNat = z.val := by decide +kernel
  exact key ⟨z, hz⟩
theorem bf_shlN {x z : Nat} (hz : z < 32) (h : x * 2 ^ z < 2 ^ 32) : nI x <<< (nI z &&& 31) = nI (x * 2 ^ z) := by
  rw [bf_m31 hz]
  exact pk_shlN _ _ (bf_smod hz) h
theorem bf_shrN {x z : Nat} (hz : z < 32) (h : x < 2 ^ 31) : nI x >>> (nI z &&& 31) = nI (x / 2 ^ z) := by
  rw [bf_m31 hz]
  exact pk_shrN h _ _ (bf_smod hz)
theorem na_shl (r : bf_All C 57 Post y J) {x z : Nat} (d : decode y.2.1 pc = .ok (.ishl, 1)) (hz : z < 32) (h : x * 2 ^ z < 2 ^ 32) (k : J (pc + 1) L (.int (nI (x * 2 ^ z)) :: S) G) : J pc L (.int (nI z) :: .int (nI x) :: S) G := bf_ishl r.1 d (by rw [bf_shlN hz h]; exact k)
theorem na_shr (r : bf_All C 57 Post y J) {x z : Nat} (d : decode y.2.1 pc = .ok (.ishr, 1)) (hz : z < 32) (h : x < 2 ^ 31) (k : J (pc + 1) L (.int (nI (x / 2 ^ z)) :: S) G) : J pc L (.int (nI z) :: .int (nI x) :: S) G := bf_ishr r.1 d (by rw [bf_shrN hz h]; exact k)
theorem na_i2l (r : bf_All C 57 Post y J) {x : Nat} (d : decode y.2.1 pc = .ok (.i2l, 1)) (h : x < 2 ^ 31) (k : J (pc + 1) L (.long (lN x) :: S) G) : J pc L (.int (nI x) :: S) G := bf_i2l r.1 d (by rw [nI_l h]; exact k)
theorem na_inc (r : bf_All C 57 Post y J) {i x v : Nat} {n : Int} {L2 : bf_L} (d : decode y.2.1 pc = .ok (.iinc i n, 3)) (h1 : L[i]? = some (some (.int (nI x)))) (hv : nI x + Int32.ofInt n = nI v) (h : bf_s1 L i (.int (nI v)) = some L2) (k : J (pc + 3) L2 S G) : J pc L S G := bf_iinc r.1 d h1 hv h k
theorem nc_eq (r : bf_All C 57 Post y J) {x z tgt : Nat} {off : Int} (d : decode y.2.1 pc = .ok (.if_icmp .eq off, 3)) (ht : (pc : Int) + off = (tgt : Int)) (hx : x < 2 ^ 31) (hz : z < 2 ^ 31) (kt : x = z → J tgt L S G) (kf : x ≠ z → J (pc + 3) L S G) : J pc L (.int (nI z) :: .int (nI x) :: S) G := bf_icmp_eq r.1 d ht (fun q => kt ((nI_eq hx hz).mp q)) (fun q => kf (fun e => q ((nI_eq hx hz).mpr e)))
theorem nz_eq (r : bf_All C 57 Post y J) {x tgt : Nat} {off : Int} (d : decode y.2.1 pc = .ok (.ifCond .eq off, 3)) (ht : (pc : Int) + off = (tgt : Int)) (hx : x < 2 ^ 31) (kt : x = 0 → J tgt L S G) (kf : x ≠ 0 → J (pc + 3) L S G) : J pc L (.int (nI x) :: S) G := bf_if_eq r.1 d ht (fun q => kt ((nI_eq hx (show 0 < 2 ^ 31 by decide)).mp q)) (fun q => kf (fun e => q ((nI_eq hx (show 0 < 2 ^ 31 by decide)).mpr e)))
theorem nc_ne (r : bf_All C 57 Post y J) {x z tgt : Nat} {off : Int} (d : decode y.2.1 pc = .ok (.if_icmp .ne off, 3)) (ht : (pc : Int) + off = (tgt : Int)) (hx : x < 2 ^ 31) (hz : z < 2 ^ 31) (kt : x ≠ z → J tgt L S G) (kf : x = z → J (pc + 3) L S G) : J pc L (.int (nI z) :: .int (nI x) :: S) G := bf_icmp_ne r.1 d ht (fun q => kt (fun e => q ((nI_eq hx hz).mpr e))) (fun q => kf ((nI_eq hx hz).mp q))
theorem nz_ne (r : bf_All C 57 Post y J) {x tgt : Nat} {off : Int} (d : decode y.2.1 pc = .ok (.ifCond .ne off, 3)) (ht : (pc : Int) + off = (tgt : Int)) (hx : x < 2 ^ 31) (kt : x ≠ 0 → J tgt L S G) (kf : x = 0 → J (pc + 3) L S G) : J pc L (.int (nI x) :: S) G := bf_if_ne r.1 d ht (fun q => kt (fun e => q ((nI_eq hx (show 0 < 2 ^ 31 by decide)).mpr e))) (fun q => kf ((nI_eq hx (show 0 < 2 ^ 31 by decide)).mp q))
theorem nc_lt (r : bf_All C 57 Post y J) {x z tgt : Nat} {off : Int} (d : decode y.2.1 pc = .ok (.if_icmp .lt off, 3)) (ht : (pc : Int) + off = (tgt : Int)) (hx : x < 2 ^ 31) (hz : z < 2 ^ 31) (kt : x < z → J tgt L S G) (kf : z ≤ x → J (pc + 3) L S G) : J pc L (.int (nI z) :: .int (nI x) :: S) G := bf_icmp_lt r.1 d ht (fun q => kt ((nI_ltI hx hz).mp q)) (fun q => kf (Nat.le_of_not_lt (fun e => q ((nI_ltI hx hz).mpr e))))
theorem nz_lt (r : bf_All C 57 Post y J) {x tgt : Nat} {off : Int} (d : decode y.2.1 pc = .ok (.ifCond .lt off, 3)) (ht : (pc : Int) + off = (tgt : Int)) (hx : x < 2 ^ 31) (kt : x < 0 → J tgt L S G) (kf : 0 ≤ x → J (pc + 3) L S G) : J pc L (.int (nI x) :: S) G := bf_if_lt r.1 d ht (fun q => kt ((nI_ltI hx (show 0 < 2 ^ 31 by decide)).mp q)) (fun q => kf (Nat.le_of_not_lt (fun e => q ((nI_ltI hx (show 0 < 2 ^ 31 by decide)).mpr e))))
theorem nc_ge (r : bf_All C 57 Post y J) {x z tgt : Nat} {off : Int} (d : decode y.2.1 pc = .ok (.if_icmp .ge off, 3)) (ht : (pc : Int) + off = (tgt : Int)) (hx : x < 2 ^ 31) (hz : z < 2 ^ 31) (kt : z ≤ x → J tgt L S G) (kf : x < z → J (pc + 3) L S G) : J pc L (.int (nI z) :: .int (nI x) :: S) G := bf_icmp_ge r.1 d ht (fun q => kt ((nI_leI hz hx).mp q)) (fun q => kf (Nat.lt_of_not_le (fun e => q ((nI_leI hz hx).mpr e))))
theorem nz_ge (r : bf_All C 57 Post y J) {x tgt : Nat} {off : Int} (d : decode y.2.1 pc = .ok (.ifCond .ge off, 3)) (ht : (pc : Int) + off = (tgt : Int)) (hx : x < 2 ^ 31) (kt : 0 ≤ x → J tgt L S G) (kf : x < 0 → J (pc + 3) L S G) : J pc L (.int (nI x) :: S) G := bf_if_ge r.1 d ht (fun q => kt ((nI_leI (show 0 < 2 ^ 31 by decide) hx).mp q)) (fun q => kf (Nat.lt_of_not_le (fun e => q ((nI_leI (show 0 < 2 ^ 31 by decide) hx).mpr e))))
theorem nc_gt (r : bf_All C 57 Post y J) {x z tgt : Nat} {off : Int} (d : decode y.2.1 pc = .ok (.if_icmp .gt off, 3)) (ht : (pc : Int) + off = (tgt : Int)) (hx : x < 2 ^ 31) (hz : z < 2 ^ 31) (kt : z < x → J tgt L S G) (kf : x ≤ z → J (pc + 3) L S G) : J pc L (.int (nI z) :: .int (nI x) :: S) G := bf_icmp_gt r.1 d ht (fun q => kt ((nI_ltI hz hx).mp q)) (fun q => kf (Nat.le_of_not_lt (fun e => q ((nI_ltI hz hx).mpr e))))
theorem nz_gt (r : bf_All C 57 Post y J) {x tgt : Nat} {off : Int} (d : decode y.2.1 pc = .ok (.ifCond .gt off, 3)) (ht : (pc : Int) + off = (tgt : Int)) (hx : x < 2 ^ 31) (kt : 0 < x → J tgt L S G) (kf : x ≤ 0 → J (pc + 3) L S G) : J pc L (.int (nI x) :: S) G := bf_if_gt r.1 d ht (fun q => kt ((nI_ltI (show 0 < 2 ^ 31 by decide) hx).mp q)) (fun q => kf (Nat.le_of_not_lt (fun e => q ((nI_ltI (show 0 < 2 ^ 31 by decide) hx).mpr e))))
theorem nc_le (r : bf_All C 57 Post y J) {x z tgt : Nat} {off : Int} (d : decode y.2.1 pc = .ok (.if_icmp .le off, 3)) (ht : (pc : Int) + off = (tgt : Int)) (hx : x < 2 ^ 31) (hz : z < 2 ^ 31) (kt : x ≤ z → J tgt L S G) (kf : z < x → J (pc + 3) L S G) : J pc L (.int (nI z) :: .int (nI x) :: S) G := bf_icmp_le r.1 d ht (fun q => kt ((nI_leI hx hz).mp q)) (fun q => kf (Nat.lt_of_not_le (fun e => q ((nI_leI hx hz).mpr e))))
theorem nz_le (r : bf_All C 57 Post y J) {x tgt : Nat} {off : Int} (d : decode y.2.1 pc = .ok (.ifCond .le off, 3)) (ht : (pc : Int) + off = (tgt : Int)) (hx : x < 2 ^ 31) (kt : x ≤ 0 → J tgt L S G) (kf : 0 < x → J (pc + 3) L S G) : J pc L (.int (nI x) :: S) G := bf_if_le r.1 d ht (fun q => kt ((nI_leI hx (show 0 < 2 ^ 31 by decide)).mp q)) (fun q => kf (Nat.lt_of_not_le (fun e => q ((nI_leI hx (show 0 < 2 ^ 31 by decide)).mpr e))))
/-- an answer that is told by a statement -/
theorem bf_ite0 {c : Prop} [Decidable c] : ((if c then 1 else 0 : Int32) = 0) ↔ ¬ c := by
  by_cases h : c
  · simp [h]
  · simp [h]
theorem nb_eq (r : bf_All C 57 Post y J) {c : Prop} {hc : Decidable c} {tgt : Nat} {off : Int} (d : decode y.2.1 pc = .ok (.ifCond .eq off, 3)) (ht : (pc : Int) + off = (tgt : Int)) (kt : ¬ c → J tgt L S G) (kf : c → J (pc + 3) L S G) : J pc L (.int (@ite _ c hc 1 0) :: S) G := bf_if_eq r.1 d ht (fun q => kt (bf_ite0.mp q)) (fun q => kf (Decidable.not_not.mp (fun e => q (bf_ite0.mpr e))))
theorem nb_ne (r : bf_All C 57 Post y J) {c : Prop} {hc : Decidable c} {tgt : Nat} {off : Int} (d : decode y.2.1 pc = .ok (.ifCond .ne off, 3)) (ht : (pc : Int) + off = (tgt : Int)) (kt : c → J tgt L S G) (kf : ¬ c → J (pc + 3) L S G) : J pc L (.int (@ite _ c hc 1 0) :: S) G := bf_if_ne r.1 d ht (fun q => kt (Decidable.not_not.mp (fun e => q (bf_ite0.mpr e)))) (fun q => kf (bf_ite0.mp q))
end bfI
/-- a call with one answer -/
def bf_Cf (d : Nat) (y : bf_M) (vs : List Value) (D : bf_D) (r : Option Value) (D' : bf_D) : Prop := bf_Cl d y vs (bf_MD D) 57 (fun r' G' => r' = r ∧ G' = bf_MD D')
theorem bf_Cf_le {d d' : Nat} {y : bf_M} {vs : List Value} {D D' : bf_D} {r : Option Value} (h : d ≤ d') (hC : bf_Cf d y vs D r D') : bf_Cf d' y vs D r D' := bf_Cl_le h hC
theorem bf_Cf_of {d : Nat} {y : bf_M} {vs : List Value} {D D' : bf_D} {r : Option Value} {n : Nat} (k : Nat) (hd : k + 1 ≤ d) (ho : bf_mo y n) (hl : (bf_sl vs).length ≤ y.2.2.1) (h : ∀ (e : Nat), k ≤ e → ∀ J : bf_J, bf_All (bf_Cl e) 57 (fun r' G' => r' = r ∧ G' = bf_MD D') y J → J 0 (bf_ini y.2.2.1 vs) [] (bf_MD D)) : bf_Cf d y vs D r D' := by
  obtain ⟨e, rfl⟩ : ∃ e, d = e + 1 := ⟨d - 1, by omega⟩
  exact ⟨⟨ho.1, ho.2.2.1⟩, Nat.le_refl _, Nat.le_refl _, hl, h e (by omega)⟩
section bfK
variable {e : Nat} {Post : bf_P} {y : bf_M} {J : bf_J} {pc : Nat} {L : bf_L} {D : bf_D}
theorem cl_v (r : bf_All (bf_Cl e) 57 Post y J) {S0 : List Value} {i ci n a : Nat} {y2 : bf_M} {res : Option Value} {D' : bf_D} (d : decode y.2.1 pc = .ok (.invokevirtual i, 3)) (hli : bf_li y.1.cls i y2.1) (hm : bf_mv y2 ci n) (hk : (bf_kd a).1 = ci) (ha : a < 57) (vs S : List Value) (hn : vs.length = n) (hsum : (S.map Value.category).sum ≤ 8) (hS : S0 = vs.reverse ++ .ref a :: S) (hC : bf_Cf e y2 (.ref a :: vs) D res D') (k : J (pc + 3) L (res.toList ++ S) (bf_MD D')) : J pc L S0 (bf_MD D) :=
  r.2.1.1 pc L S S0 (bf_MD D) i y2 ci n a vs 57 _ d hli hm hk ha hn hsum hS hC (Nat.le_refl _) (fun r' G' h _ => by rw [h.1, h.2]; exact k)
theorem cl_s (r : bf_All (bf_Cl e) 57 Post y J) {S0 : List Value} {i n : Nat} {y2 : bf_M} {res : Option Value} {D' : bf_D} (d : decode y.2.1 pc = .ok (.invokestatic i, 3)) (hli : bf_li y.1.cls i y2.1) (hm : bf_ms y2 n) (vs S : List Value) (hn : vs.length = n) (hsum : (S.map Value.category).sum ≤ 8) (hS : S0 = vs.reverse ++ S) (hC : bf_Cf e y2 vs D res D') (k : J (pc + 3) L (res.toList ++ S) (bf_MD D')) : J pc L S0 (bf_MD D) :=
  r.2.1.2.1 pc L S S0 (bf_MD D) i y2 n vs 57 _ d hli hm hn hsum hS hC (Nat.le_refl _) (fun r' G' h _ => by rw [h.1, h.2]; exact k)
theorem cl_max (r : bf_All (bf_Cl e) 57 Post y J) {S : List Value} {i : Nat} {x z : Int32} (d : decode y.2.1 pc = .ok (.invokestatic i, 3)) (hw : Cond.methodLink y.1.cls i Lib.Math.max.name ∈ lw_tbl) (hsum : (S.map Value.category).sum ≤ 8) (k : J (pc + 3) L (.int (if x < z then z else x) :: S) (bf_MD D)) : J pc L (.int z :: .int x :: S) (bf_MD D) := r.2.1.2.2.2.2.2.2.2.2.2.1 pc L S _ i x z d hw (Nat.le_refl _) hsum k
theorem cl_min (r : bf_All (bf_Cl e) 57 Post y J) {S : List Value} {i : Nat} {x z : Int32} (d : decode y.2.1 pc = .ok (.invokestatic i, 3)) (hw : Cond.methodLink y.1.cls i Lib.Math.min.name ∈ lw_tbl) (hsum : (S.map Value.category).sum ≤ 8) (k : J (pc + 3) L (.int (if z < x then z else x) :: S) (bf_MD D)) : J pc L (.int z :: .int x :: S) (bf_MD D) := r.2.1.2.2.2.2.2.2.2.2.2.2 pc L S _ i x z d hw (Nat.le_refl _) hsum k
def bf_cpD (D : bf_D) (a0 a1 sp dp n : Nat) : bf_D := fun b j => if b = a1 then va_cpy (D a0) (D a1) sp dp n j else D b j
theorem cl_cpy (r : bf_All (bf_Cl e) 57 Post y J) {S : List Value} {i a0 a1 n0 n1 sp dp n : Nat} (d : decode y.2.1 pc = .ok (.invokestatic i, 3)) (hw : Cond.methodLink y.1.cls i arraycopyName ∈ lw_tbl) (hk0 : bf_kd a0 = (9, n0)) (hk1 : bf_kd a1 = (9, n1)) (ha0 : a0 < 57) (ha1 : a1 < 57) (h4 : sp + n ≤ n0) (h5 : dp + n ≤ n1) (hsum : (S.map Value.category).sum ≤ 8) (k : J (pc + 3) L S (bf_MD (bf_cpD D a0 a1 sp dp n))) : J pc L (.int (nI n) :: .int (nI dp) :: .ref a1 :: .int (nI sp) :: .ref a0 :: S) (bf_MD D) := by
  have b0 := bf_kdn hk0 ha0
  have b1 := bf_kdn hk1 ha1
  have c1 := nI_clamp (n := sp) (by omega)
  have c2 := nI_clamp (n := dp) (by omega)
  have c3 := nI_clamp (n := n) (by omega)
  refine r.2.1.2.2.2.2.2.2.2.2.1 pc L S (bf_MD D) i a0 a1 n0 n1 (D a0) (D a1) (nI sp) (nI dp) (nI n) d hw hk0 hk1 ha0 ha1 (fun j => bf_mk0 (bf_rt9 hk0 ha0 j)) (fun j => bf_mk0 (bf_rt9 hk1 ha1 j)) (nI_pos (by omega)) (nI_pos (by omega)) (nI_pos (by omega)) (by rw [c1, c3]; exact h4) (by rw [c2, c3]; exact h5) hsum ?_
  rw [c1, c2, c3]
  have e2 : bf_fill (bf_MD D).2 a1 (fun j => .int (va_cpy (D a0) (D a1) sp dp n j)) = bf_mk (bf_cpD D a0 a1 sp dp n) := by
    funext b j
    by_cases hb : b = a1
    · subst hb
      simp [bf_fill, bf_mk, bf_rt9 hk1 ha1 j, bf_cpD]
    · simp [bf_fill, bf_MD, bf_mk, bf_cpD, hb]
  rw [e2]
  exact k
theorem rt_i {C : bf_CR} {D' : bf_D} {v v' : Int32} {ty : FieldType} (r : bf_All C 57 (fun r' G' => r' = some (.int v') ∧ G' = bf_MD D') y J) (d : decode y.2.1 pc = .ok (.ireturn, 1)) (hty : y.2.2.2 = some ty) (hn : narrow ty (.int v) = .int v) (hv : v = v') (hD : D = D') : J pc L [.int v] (bf_MD D) := r.2.2.2.1 pc L (bf_MD D) v ty d hty hn rfl ⟨by rw [hv], by rw [hD]⟩
theorem rt_l {C : bf_CR} {D' : bf_D} {v v' : Int64} (r : bf_All C 57 (fun r' G' => r' = some (.long v') ∧ G' = bf_MD D') y J) (d : decode y.2.1 pc = .ok (.lreturn, 1)) (hty : y.2.2.2 = some .long) (hv : v = v') (hD : D = D') : J pc L [.long v] (bf_MD D) := r.2.2.2.2.1 pc L (bf_MD D) v d hty rfl ⟨by rw [hv], by rw [hD]⟩
theorem rt_v {C : bf_CR} {D' : bf_D} (r : bf_All C 57 (fun r' G' => r' = none ∧ G' = bf_MD D') y J) (d : decode y.2.1 pc = .ok (.return_, 1)) (hty : y.2.2.2 = none) (hD : D = D') : J pc L [] (bf_MD D) := r.2.2.2.2.2 pc L (bf_MD D) d hty rfl ⟨rfl, by rw [hD]⟩
end bfK
end
section
theorem ad_k6 {k : Nat} (h : k < 4) : bf_kd (6 + 3 * k) = (3, 6) :=
  match k, h with
  | 0, _ => rfl
  | 1, _ => rfl
  | 2, _ => rfl
  | 3, _ => rfl
theorem ad_c6 {k : Nat} (h : k < 4) : (bf_kd (6 + 3 * k)).1 = 3 := by rw [ad_k6 h]
theorem ad_l6 {k : Nat} (h : k < 4) : 6 + 3 * k < 57 := by omega
theorem ad_r6_0 {k : Nat} (h : k < 4) : bf_rt (6 + 3 * k) 0 = 5 :=
  match k, h with
  | 0, _ => rfl
  | 1, _ => rfl
  | 2, _ => rfl
  | 3, _ => rfl
theorem ad_r6_1 {k : Nat} (h : k < 4) : bf_rt (6 + 3 * k) 1 = (7 + 3 * k) + 1 :=
  match k, h with
  | 0, _ => rfl
  | 1, _ => rfl
  | 2, _ => rfl
  | 3, _ => rfl
theorem ad_r6_2 {k : Nat} (h : k < 4) : bf_rt (6 + 3 * k) 2 = (8 + 3 * k) + 1 :=
  match k, h with
  | 0, _ => rfl
  | 1, _ => rfl
  | 2, _ => rfl
  | 3, _ => rfl
theorem ad_i6 {k : Nat} (h : k < 4) (j : Nat) (hj : 3 ≤ j) : bf_rt (6 + 3 * k) j = 0 := by
  obtain ⟨i, rfl⟩ : ∃ i, j = i + 3 := ⟨j - 3, by omega⟩
  match k, h with
  | 0, _ => rfl
  | 1, _ => rfl
  | 2, _ => rfl
  | 3, _ => rfl
theorem ad_k7 {k : Nat} (h : k < 4) : bf_kd (7 + 3 * k) = (9, 10) :=
  match k, h with
  | 0, _ => rfl
  | 1, _ => rfl
  | 2, _ => rfl
  | 3, _ => rfl
theorem ad_c7 {k : Nat} (h : k < 4) : (bf_kd (7 + 3 * k)).1 = 9 := by rw [ad_k7 h]
theorem ad_l7 {k : Nat} (h : k < 4) : 7 + 3 * k < 57 := by omega
theorem ad_k8 {k : Nat} (h : k < 4) : bf_kd (8 + 3 * k) = (9, 7) :=
  match k, h with
  | 0, _ => rfl
  | 1, _ => rfl
  | 2, _ => rfl
  | 3, _ => rfl
theorem ad_c8 {k : Nat} (h : k < 4) : (bf_kd (8 + 3 * k)).1 = 9 := by rw [ad_k8 h]
theorem ad_l8 {k : Nat} (h : k < 4) : 8 + 3 * k < 57 := by omega
theorem ad_k29 {k : Nat} (h : k < 4) : bf_kd (29 + 2 * k) = (5, 3) :=
  match k, h with
  | 0, _ => rfl
  | 1, _ => rfl
  | 2, _ => rfl
  | 3, _ => rfl
theorem ad_c29 {k : Nat} (h : k < 4) : (bf_kd (29 + 2 * k)).1 = 5 := by rw [ad_k29 h]
theorem ad_l29 {k : Nat} (h : k < 4) : 29 + 2 * k < 57 := by omega
theorem ad_r29_0 {k : Nat} (h : k < 4) : bf_rt (29 + 2 * k) 0 = (30 + 2 * k) + 1 :=
  match k, h with
  | 0, _ => rfl
  | 1, _ => rfl
  | 2, _ => rfl
  | 3, _ => rfl
theorem ad_i29 {k : Nat} (h : k < 4) (j : Nat) (hj : 1 ≤ j) : bf_rt (29 + 2 * k) j = 0 := by
  obtain ⟨i, rfl⟩ : ∃ i, j = i + 1 := ⟨j - 1, by omega⟩
  match k, h with
  | 0, _ => rfl
  | 1, _ => rfl
  | 2, _ => rfl
  | 3, _ => rfl
theorem ad_k30 {k : Nat} (h : k < 4) : bf_kd (30 + 2 * k) = (9, 60) :=
  match k, h with
  | 0, _ => rfl
  | 1, _ => rfl
  | 2, _ => rfl
  | 3, _ => rfl
theorem ad_c30 {k : Nat} (h : k < 4) : (bf_kd (30 + 2 * k)).1 = 9 := by rw [ad_k30 h]
theorem ad_l30 {k : Nat} (h : k < 4) : 30 + 2 * k < 57 := by omega
theorem ad_a1 {k : Nat} (h : k < 4) : bf_rt 1 k = (29 + 2 * k) + 1 :=
  match k, h with
  | 0, _ => rfl
  | 1, _ => rfl
  | 2, _ => rfl
  | 3, _ => rfl
theorem ad_a3 {k : Nat} (h : k < 4) : bf_rt 3 k = (6 + 3 * k) + 1 :=
  match k, h with
  | 0, _ => rfl
  | 1, _ => rfl
  | 2, _ => rfl
  | 3, _ => rfl
theorem bf_lt31 {n m : Nat} (h : n < m) (hm : m ≤ 2 ^ 31) : n < 2 ^ 31 := Nat.lt_of_lt_of_le h hm
theorem bf_wi {v : Int32} {n : Nat} (hn : n < 2 ^ 31) (h : 0 ≤ v ∧ v < nI n) : ∃ k : Nat, k < n ∧ v = nI k := by
  obtain ⟨k, hk, rfl⟩ := nI_of (x := v) (Int32.not_lt.mpr h.1)
  exact ⟨k, (nI_ltI hk hn).mp h.2, rfl⟩
theorem bf_wi_nI {k n : Nat} (hk : k < n) (hn : n < 2 ^ 31) : 0 ≤ nI k ∧ nI k < nI n := ⟨nI_pos' (by omega), (nI_ltI (by omega) hn).mpr hk⟩
theorem bf_wi_iff {k n : Nat} (hk : k < 2 ^ 31) (hn : n < 2 ^ 31) : (0 ≤ nI k ∧ nI k < nI n) ↔ k < n := ⟨fun h => (nI_ltI hk hn).mp h.2, fun h => bf_wi_nI h hn⟩
theorem bf_if {α : Type} {c : Prop} {hc : Decidable c} {a b x : α} (h1 : c → a = x) (h2 : ¬ c → b = x) : (@ite _ c hc a b) = x := by
  by_cases h : c
  · rw [if_pos h]; exact h1 h
  · rw [if_neg h]; exact h2 h
theorem bf_ifc {α : Type} {c c' : Prop} {hc : Decidable c} {hc' : Decidable c'} {a b : α} (h : c ↔ c') : (@ite _ c hc a b) = (@ite _ c' hc' a b) := by
  by_cases hx : c
  · rw [if_pos hx, if_pos (h.mp hx)]
  · rw [if_neg hx, if_neg (fun e => hx (h.mpr e))]
theorem bf_toL (x : Int32) : x.toInt64.toInt = x.toInt := Int32.toInt_toInt64 x
theorem bf_in32 {x : Int32} {h : Nat} (hh : h + 1 < 2 ^ 31) : (lN 0 ≤ x.toInt64 ∧ x.toInt64 ≤ lN h) ↔ (0 ≤ x ∧ x < nI (h + 1)) := by
  rw [Int64.le_iff_toInt_le, Int64.le_iff_toInt_le, Int32.le_iff_toInt_le, Int32.lt_iff_toInt_lt, bf_toL, lN_toInt (by decide), lN_toInt (by omega), nI_toInt hh]
  show ((0 : Nat) : Int) ≤ _ ∧ _ ↔ (0 : Int) ≤ _ ∧ _
  omega
end
section
theorem c_X8_isWithin {d : Nat} (hd : 1 ≤ d) (D : bf_D) (v z : Int32) : bf_Cf d mX8_isWithin [.int (v), .int (z)] D (some (.int (if 0 ≤ v ∧ v < z then 1 else 0))) D := by
  refine bf_Cf_of 0 hd mo_X8_isWithin (Nat.le_of_ble_eq_true rfl) (fun e he J r => ?_)
  show J 0 [some (.int (v)), some (.int (z))] [] (bf_MD D)
  refine bf_iconst r.1 (v := nI 0) dX8_isWithin_0 rfl ?_
  refine bf_iload_n r.1 dX8_isWithin_1 rfl ?_
  refine bf_icmp_gt r.1 (tgt := 14) dX8_isWithin_2 (by decide) (fun c1 => ?_) (fun c1 => ?_)
  · refine bf_iconst r.1 (v := nI 0) dX8_isWithin_14 rfl ?_
    exact rt_i r dX8_isWithin_15 rfl (by decide) (by simp_all [nI]; try omega) rfl
  · refine bf_iload_n r.1 dX8_isWithin_5 rfl ?_
    refine bf_iload_n r.1 dX8_isWithin_6 rfl ?_
    refine bf_icmp_ge r.1 (tgt := 14) dX8_isWithin_7 (by decide) (fun c2 => ?_) (fun c2 => ?_)
    · refine bf_iconst r.1 (v := nI 0) dX8_isWithin_14 rfl ?_
      exact rt_i r dX8_isWithin_15 rfl (by decide) (by simp_all [nI]; try omega) rfl
    · refine bf_iconst r.1 (v := nI 1) dX8_isWithin_10 rfl ?_
      refine bf_goto r.1 (tgt := 15) dX8_isWithin_11 (by decide) ?_
      exact rt_i r dX8_isWithin_15 rfl (by decide) (by simp_all [nI]; try omega) rfl
end
section
theorem t_dummy : True := trivial
end
