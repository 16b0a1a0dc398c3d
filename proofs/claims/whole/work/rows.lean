section
-- ===== PART A: goes FIRST, ahead of the names: the tables' words, and 'selects' of the private methods out of them =====
/-- a private method of a class that the tables say can be made, by its rows of tables_1 -/
def lw_okq (q : MethodName × Nat) : Prop := (q.1.cls ≠ "java/lang/invoke/MethodHandle" ∧ q.1.cls ≠ "java/lang/invoke/VarHandle") ∧ Cond.instantiable q.1.cls q.2 ∈ tables_1 ∧ Cond.privateMethod q.1 ∈ tables_1 ∧ Cond.instanceMethod q.1 ∈ tables_1
theorem lw_p0 : lw_okq (⟨"HummingSet$Wireless", "clear", "()V"⟩, 10) := ⟨⟨by decide +kernel, by decide +kernel⟩, List.mem_of_getElem? (i := 173) (by decide +kernel), List.mem_of_getElem? (i := 265) (by decide +kernel), List.mem_of_getElem? (i := 266) (by decide +kernel)⟩
theorem lw_p1 : lw_okq (⟨"HummingSet$Wireless", "takeStage", "(II)Z"⟩, 10) := ⟨⟨by decide +kernel, by decide +kernel⟩, List.mem_of_getElem? (i := 173) (by decide +kernel), List.mem_of_getElem? (i := 310) (by decide +kernel), List.mem_of_getElem? (i := 311) (by decide +kernel)⟩
theorem lw_p2 : lw_okq (⟨"HummingSet$Wireless", "takePart", "(IIIII)Z"⟩, 10) := ⟨⟨by decide +kernel, by decide +kernel⟩, List.mem_of_getElem? (i := 173) (by decide +kernel), List.mem_of_getElem? (i := 317) (by decide +kernel), List.mem_of_getElem? (i := 318) (by decide +kernel)⟩
theorem lw_p3 : lw_okq (⟨"HummingSet$Wireless", "hasStage", "(I)Z"⟩, 10) := ⟨⟨by decide +kernel, by decide +kernel⟩, List.mem_of_getElem? (i := 173) (by decide +kernel), List.mem_of_getElem? (i := 321) (by decide +kernel), List.mem_of_getElem? (i := 322) (by decide +kernel)⟩
theorem lw_p4 : lw_okq (⟨"HummingSet$Wireless", "takeLet", "(III)Z"⟩, 10) := ⟨⟨by decide +kernel, by decide +kernel⟩, List.mem_of_getElem? (i := 173) (by decide +kernel), List.mem_of_getElem? (i := 325) (by decide +kernel), List.mem_of_getElem? (i := 326) (by decide +kernel)⟩
theorem lw_p5 : lw_okq (⟨"HummingSet$Wireless", "hasPart", "(I)Z"⟩, 10) := ⟨⟨by decide +kernel, by decide +kernel⟩, List.mem_of_getElem? (i := 173) (by decide +kernel), List.mem_of_getElem? (i := 329) (by decide +kernel), List.mem_of_getElem? (i := 330) (by decide +kernel)⟩
theorem lw_p6 : lw_okq (⟨"HummingSet$Plan", "learn", "(LHummingSet$Wireless;LHummingSet$Bench;)V"⟩, 3) := ⟨⟨by decide +kernel, by decide +kernel⟩, List.mem_of_getElem? (i := 154) (by decide +kernel), List.mem_of_getElem? (i := 337) (by decide +kernel), List.mem_of_getElem? (i := 338) (by decide +kernel)⟩
theorem lw_p7 : lw_okq (⟨"HummingSet$Wireless", "hasState", "(I)Z"⟩, 10) := ⟨⟨by decide +kernel, by decide +kernel⟩, List.mem_of_getElem? (i := 173) (by decide +kernel), List.mem_of_getElem? (i := 341) (by decide +kernel), List.mem_of_getElem? (i := 342) (by decide +kernel)⟩
theorem lw_p8 : lw_okq (⟨"HummingSet$Bench", "play", "(LHummingSet$Wireless;IIII)V"⟩, 2) := ⟨⟨by decide +kernel, by decide +kernel⟩, List.mem_of_getElem? (i := 55) (by decide +kernel), List.mem_of_getElem? (i := 351) (by decide +kernel), List.mem_of_getElem? (i := 352) (by decide +kernel)⟩
theorem lw_p9 : lw_okq (⟨"HummingSet$Bench", "comeIn", "(LHummingSet$Wireless;II)V"⟩, 2) := ⟨⟨by decide +kernel, by decide +kernel⟩, List.mem_of_getElem? (i := 55) (by decide +kernel), List.mem_of_getElem? (i := 355) (by decide +kernel), List.mem_of_getElem? (i := 356) (by decide +kernel)⟩
theorem lw_p10 : lw_okq (⟨"HummingSet$Bench", "tonesHeard", "(LHummingSet$Wireless;)I"⟩, 2) := ⟨⟨by decide +kernel, by decide +kernel⟩, List.mem_of_getElem? (i := 55) (by decide +kernel), List.mem_of_getElem? (i := 360) (by decide +kernel), List.mem_of_getElem? (i := 361) (by decide +kernel)⟩
theorem lw_p11 : lw_okq (⟨"HummingSet", "weighAnew", "()V"⟩, 12) := ⟨⟨by decide +kernel, by decide +kernel⟩, List.mem_of_getElem? (i := 17) (by decide +kernel), List.mem_of_getElem? (i := 367) (by decide +kernel), List.mem_of_getElem? (i := 368) (by decide +kernel)⟩
theorem lw_p12 : lw_okq (⟨"HummingSet$Cases", "fill", "(LHummingSet$Wireless;)V"⟩, 4) := ⟨⟨by decide +kernel, by decide +kernel⟩, List.mem_of_getElem? (i := 100) (by decide +kernel), List.mem_of_getElem? (i := 371) (by decide +kernel), List.mem_of_getElem? (i := 372) (by decide +kernel)⟩
theorem lw_p13 : lw_okq (⟨"HummingSet$Wireless", "weightOf", "(I)J"⟩, 10) := ⟨⟨by decide +kernel, by decide +kernel⟩, List.mem_of_getElem? (i := 173) (by decide +kernel), List.mem_of_getElem? (i := 377) (by decide +kernel), List.mem_of_getElem? (i := 378) (by decide +kernel)⟩
theorem lw_p14 : lw_okq (⟨"HummingSet$Cases", "add", "(IJ)V"⟩, 4) := ⟨⟨by decide +kernel, by decide +kernel⟩, List.mem_of_getElem? (i := 100) (by decide +kernel), List.mem_of_getElem? (i := 381) (by decide +kernel), List.mem_of_getElem? (i := 382) (by decide +kernel)⟩
theorem lw_p15 : lw_okq (⟨"HummingSet$Cases", "narrow", "(LHummingSet$Wireless;LHummingSet$Bench;LHummingSet$Answers;I)V"⟩, 4) := ⟨⟨by decide +kernel, by decide +kernel⟩, List.mem_of_getElem? (i := 100) (by decide +kernel), List.mem_of_getElem? (i := 385) (by decide +kernel), List.mem_of_getElem? (i := 386) (by decide +kernel)⟩
def lw_privs_1 : List (MethodName × Nat) := [(⟨"HummingSet$Wireless", "clear", "()V"⟩, 10), (⟨"HummingSet$Wireless", "takeStage", "(II)Z"⟩, 10), (⟨"HummingSet$Wireless", "takePart", "(IIIII)Z"⟩, 10), (⟨"HummingSet$Wireless", "hasStage", "(I)Z"⟩, 10), (⟨"HummingSet$Wireless", "takeLet", "(III)Z"⟩, 10), (⟨"HummingSet$Wireless", "hasPart", "(I)Z"⟩, 10), (⟨"HummingSet$Plan", "learn", "(LHummingSet$Wireless;LHummingSet$Bench;)V"⟩, 3), (⟨"HummingSet$Wireless", "hasState", "(I)Z"⟩, 10), (⟨"HummingSet$Bench", "play", "(LHummingSet$Wireless;IIII)V"⟩, 2), (⟨"HummingSet$Bench", "comeIn", "(LHummingSet$Wireless;II)V"⟩, 2), (⟨"HummingSet$Bench", "tonesHeard", "(LHummingSet$Wireless;)I"⟩, 2), (⟨"HummingSet", "weighAnew", "()V"⟩, 12), (⟨"HummingSet$Cases", "fill", "(LHummingSet$Wireless;)V"⟩, 4), (⟨"HummingSet$Wireless", "weightOf", "(I)J"⟩, 10), (⟨"HummingSet$Cases", "add", "(IJ)V"⟩, 4), (⟨"HummingSet$Cases", "narrow", "(LHummingSet$Wireless;LHummingSet$Bench;LHummingSet$Answers;I)V"⟩, 4)]
theorem lw_r1 : ∀ q ∈ lw_privs_1, lw_okq q := List.forall_mem_cons.mpr ⟨lw_p0, List.forall_mem_cons.mpr ⟨lw_p1, List.forall_mem_cons.mpr ⟨lw_p2, List.forall_mem_cons.mpr ⟨lw_p3, List.forall_mem_cons.mpr ⟨lw_p4, List.forall_mem_cons.mpr ⟨lw_p5, List.forall_mem_cons.mpr ⟨lw_p6, List.forall_mem_cons.mpr ⟨lw_p7, List.forall_mem_cons.mpr ⟨lw_p8, List.forall_mem_cons.mpr ⟨lw_p9, List.forall_mem_cons.mpr ⟨lw_p10, List.forall_mem_cons.mpr ⟨lw_p11, List.forall_mem_cons.mpr ⟨lw_p12, List.forall_mem_cons.mpr ⟨lw_p13, List.forall_mem_cons.mpr ⟨lw_p14, List.forall_mem_cons.mpr ⟨lw_p15, fun _ h => absurd h List.not_mem_nil⟩⟩⟩⟩⟩⟩⟩⟩⟩⟩⟩⟩⟩⟩⟩⟩
theorem lw_p16 : lw_okq (⟨"HummingSet$Bench", "reply", "(LHummingSet$Wireless;IIII)I"⟩, 2) := ⟨⟨by decide +kernel, by decide +kernel⟩, List.mem_of_getElem? (i := 55) (by decide +kernel), List.mem_of_getElem? (i := 389) (by decide +kernel), List.mem_of_getElem? (i := 390) (by decide +kernel)⟩
theorem lw_p17 : lw_okq (⟨"HummingSet$Text", "hasRoom", "(I)Z"⟩, 2) := ⟨⟨by decide +kernel, by decide +kernel⟩, List.mem_of_getElem? (i := 25) (by decide +kernel), List.mem_of_getElem? (i := 446) (by decide +kernel), List.mem_of_getElem? (i := 447) (by decide +kernel)⟩
theorem lw_p18 : lw_okq (⟨"HummingSet$Text", "append", "(IJ)V"⟩, 2) := ⟨⟨by decide +kernel, by decide +kernel⟩, List.mem_of_getElem? (i := 25) (by decide +kernel), List.mem_of_getElem? (i := 450) (by decide +kernel), List.mem_of_getElem? (i := 451) (by decide +kernel)⟩
theorem lw_p19 : lw_okq (⟨"HummingSet$Reader", "read", "(LHummingSet$Text;LHummingSet$Wireless;)I"⟩, 2) := ⟨⟨by decide +kernel, by decide +kernel⟩, List.mem_of_getElem? (i := 41) (by decide +kernel), List.mem_of_getElem? (i := 462) (by decide +kernel), List.mem_of_getElem? (i := 463) (by decide +kernel)⟩
theorem lw_p20 : lw_okq (⟨"HummingSet$Reader", "readItem", "(LHummingSet$Text;LHummingSet$Wireless;)Z"⟩, 2) := ⟨⟨by decide +kernel, by decide +kernel⟩, List.mem_of_getElem? (i := 41) (by decide +kernel), List.mem_of_getElem? (i := 467) (by decide +kernel), List.mem_of_getElem? (i := 468) (by decide +kernel)⟩
theorem lw_p21 : lw_okq (⟨"HummingSet$Text", "at", "(I)I"⟩, 2) := ⟨⟨by decide +kernel, by decide +kernel⟩, List.mem_of_getElem? (i := 25) (by decide +kernel), List.mem_of_getElem? (i := 471) (by decide +kernel), List.mem_of_getElem? (i := 472) (by decide +kernel)⟩
theorem lw_p22 : lw_okq (⟨"HummingSet$Reader", "readNumber", "(LHummingSet$Text;I)Z"⟩, 2) := ⟨⟨by decide +kernel, by decide +kernel⟩, List.mem_of_getElem? (i := 41) (by decide +kernel), List.mem_of_getElem? (i := 478) (by decide +kernel), List.mem_of_getElem? (i := 479) (by decide +kernel)⟩
theorem lw_p23 : lw_okq (⟨"HummingSet$Reader", "takeItem", "(ILHummingSet$Wireless;)Z"⟩, 2) := ⟨⟨by decide +kernel, by decide +kernel⟩, List.mem_of_getElem? (i := 41) (by decide +kernel), List.mem_of_getElem? (i := 483) (by decide +kernel), List.mem_of_getElem? (i := 484) (by decide +kernel)⟩
theorem lw_p24 : lw_okq (⟨"HummingSet$Wireless", "takeMains", "(III)Z"⟩, 10) := ⟨⟨by decide +kernel, by decide +kernel⟩, List.mem_of_getElem? (i := 173) (by decide +kernel), List.mem_of_getElem? (i := 490) (by decide +kernel), List.mem_of_getElem? (i := 491) (by decide +kernel)⟩
theorem lw_p25 : lw_okq (⟨"HummingSet$Wireless", "takeCost", "(II)Z"⟩, 10) := ⟨⟨by decide +kernel, by decide +kernel⟩, List.mem_of_getElem? (i := 173) (by decide +kernel), List.mem_of_getElem? (i := 494) (by decide +kernel), List.mem_of_getElem? (i := 495) (by decide +kernel)⟩
theorem lw_p26 : lw_okq (⟨"HummingSet$Wireless", "takeWay", "(III)Z"⟩, 10) := ⟨⟨by decide +kernel, by decide +kernel⟩, List.mem_of_getElem? (i := 173) (by decide +kernel), List.mem_of_getElem? (i := 498) (by decide +kernel), List.mem_of_getElem? (i := 499) (by decide +kernel)⟩
theorem lw_p27 : lw_okq (⟨"HummingSet$Wireless", "takeEar", "(II)Z"⟩, 10) := ⟨⟨by decide +kernel, by decide +kernel⟩, List.mem_of_getElem? (i := 173) (by decide +kernel), List.mem_of_getElem? (i := 502) (by decide +kernel), List.mem_of_getElem? (i := 503) (by decide +kernel)⟩
theorem lw_p28 : lw_okq (⟨"HummingSet$Wireless", "takeYearly", "(II)Z"⟩, 10) := ⟨⟨by decide +kernel, by decide +kernel⟩, List.mem_of_getElem? (i := 173) (by decide +kernel), List.mem_of_getElem? (i := 506) (by decide +kernel), List.mem_of_getElem? (i := 507) (by decide +kernel)⟩
theorem lw_p29 : lw_okq (⟨"HummingSet$Wireless", "takeVolts", "(III)Z"⟩, 10) := ⟨⟨by decide +kernel, by decide +kernel⟩, List.mem_of_getElem? (i := 173) (by decide +kernel), List.mem_of_getElem? (i := 510) (by decide +kernel), List.mem_of_getElem? (i := 511) (by decide +kernel)⟩
theorem lw_p30 : lw_okq (⟨"HummingSet$Bench", "loudness", "()I"⟩, 2) := ⟨⟨by decide +kernel, by decide +kernel⟩, List.mem_of_getElem? (i := 55) (by decide +kernel), List.mem_of_getElem? (i := 544) (by decide +kernel), List.mem_of_getElem? (i := 545) (by decide +kernel)⟩
theorem lw_p31 : lw_okq (⟨"HummingSet$Wireless", "hasAsk", "(II)Z"⟩, 10) := ⟨⟨by decide +kernel, by decide +kernel⟩, List.mem_of_getElem? (i := 173) (by decide +kernel), List.mem_of_getElem? (i := 552) (by decide +kernel), List.mem_of_getElem? (i := 553) (by decide +kernel)⟩
def lw_privs_2 : List (MethodName × Nat) := [(⟨"HummingSet$Bench", "reply", "(LHummingSet$Wireless;IIII)I"⟩, 2), (⟨"HummingSet$Text", "hasRoom", "(I)Z"⟩, 2), (⟨"HummingSet$Text", "append", "(IJ)V"⟩, 2), (⟨"HummingSet$Reader", "read", "(LHummingSet$Text;LHummingSet$Wireless;)I"⟩, 2), (⟨"HummingSet$Reader", "readItem", "(LHummingSet$Text;LHummingSet$Wireless;)Z"⟩, 2), (⟨"HummingSet$Text", "at", "(I)I"⟩, 2), (⟨"HummingSet$Reader", "readNumber", "(LHummingSet$Text;I)Z"⟩, 2), (⟨"HummingSet$Reader", "takeItem", "(ILHummingSet$Wireless;)Z"⟩, 2), (⟨"HummingSet$Wireless", "takeMains", "(III)Z"⟩, 10), (⟨"HummingSet$Wireless", "takeCost", "(II)Z"⟩, 10), (⟨"HummingSet$Wireless", "takeWay", "(III)Z"⟩, 10), (⟨"HummingSet$Wireless", "takeEar", "(II)Z"⟩, 10), (⟨"HummingSet$Wireless", "takeYearly", "(II)Z"⟩, 10), (⟨"HummingSet$Wireless", "takeVolts", "(III)Z"⟩, 10), (⟨"HummingSet$Bench", "loudness", "()I"⟩, 2), (⟨"HummingSet$Wireless", "hasAsk", "(II)Z"⟩, 10)]
theorem lw_r2 : ∀ q ∈ lw_privs_2, lw_okq q := List.forall_mem_cons.mpr ⟨lw_p16, List.forall_mem_cons.mpr ⟨lw_p17, List.forall_mem_cons.mpr ⟨lw_p18, List.forall_mem_cons.mpr ⟨lw_p19, List.forall_mem_cons.mpr ⟨lw_p20, List.forall_mem_cons.mpr ⟨lw_p21, List.forall_mem_cons.mpr ⟨lw_p22, List.forall_mem_cons.mpr ⟨lw_p23, List.forall_mem_cons.mpr ⟨lw_p24, List.forall_mem_cons.mpr ⟨lw_p25, List.forall_mem_cons.mpr ⟨lw_p26, List.forall_mem_cons.mpr ⟨lw_p27, List.forall_mem_cons.mpr ⟨lw_p28, List.forall_mem_cons.mpr ⟨lw_p29, List.forall_mem_cons.mpr ⟨lw_p30, List.forall_mem_cons.mpr ⟨lw_p31, fun _ h => absurd h List.not_mem_nil⟩⟩⟩⟩⟩⟩⟩⟩⟩⟩⟩⟩⟩⟩⟩⟩
theorem lw_p32 : lw_okq (⟨"HummingSet$Wireless", "asksOf", "(I)I"⟩, 10) := ⟨⟨by decide +kernel, by decide +kernel⟩, List.mem_of_getElem? (i := 173) (by decide +kernel), List.mem_of_getElem? (i := 556) (by decide +kernel), List.mem_of_getElem? (i := 557) (by decide +kernel)⟩
theorem lw_p33 : lw_okq (⟨"HummingSet$Wireless", "riskOf", "(II)I"⟩, 10) := ⟨⟨by decide +kernel, by decide +kernel⟩, List.mem_of_getElem? (i := 173) (by decide +kernel), List.mem_of_getElem? (i := 565) (by decide +kernel), List.mem_of_getElem? (i := 566) (by decide +kernel)⟩
theorem lw_p34 : lw_okq (⟨"HummingSet$Wireless", "someBearsTooMuch", "(I)Z"⟩, 10) := ⟨⟨by decide +kernel, by decide +kernel⟩, List.mem_of_getElem? (i := 173) (by decide +kernel), List.mem_of_getElem? (i := 569) (by decide +kernel), List.mem_of_getElem? (i := 570) (by decide +kernel)⟩
theorem lw_p35 : lw_okq (⟨"HummingSet$Wireless", "someHoldsMuch", "(I)Z"⟩, 10) := ⟨⟨by decide +kernel, by decide +kernel⟩, List.mem_of_getElem? (i := 173) (by decide +kernel), List.mem_of_getElem? (i := 573) (by decide +kernel), List.mem_of_getElem? (i := 574) (by decide +kernel)⟩
theorem lw_p36 : lw_okq (⟨"HummingSet$Part", "voltsAfter", "(I)I"⟩, 9) := ⟨⟨by decide +kernel, by decide +kernel⟩, List.mem_of_getElem? (i := 202) (by decide +kernel), List.mem_of_getElem? (i := 581) (by decide +kernel), List.mem_of_getElem? (i := 582) (by decide +kernel)⟩
theorem lw_p37 : lw_okq (⟨"HummingSet$Part", "voltsLess", "(I)I"⟩, 9) := ⟨⟨by decide +kernel, by decide +kernel⟩, List.mem_of_getElem? (i := 202) (by decide +kernel), List.mem_of_getElem? (i := 585) (by decide +kernel), List.mem_of_getElem? (i := 586) (by decide +kernel)⟩
theorem lw_p38 : lw_okq (⟨"HummingSet$Wireless", "minuteOfNoShock", "()I"⟩, 10) := ⟨⟨by decide +kernel, by decide +kernel⟩, List.mem_of_getElem? (i := 173) (by decide +kernel), List.mem_of_getElem? (i := 596) (by decide +kernel), List.mem_of_getElem? (i := 597) (by decide +kernel)⟩
theorem lw_p39 : lw_okq (⟨"HummingSet$Part", "minuteBelowShock", "()I"⟩, 9) := ⟨⟨by decide +kernel, by decide +kernel⟩, List.mem_of_getElem? (i := 202) (by decide +kernel), List.mem_of_getElem? (i := 600) (by decide +kernel), List.mem_of_getElem? (i := 601) (by decide +kernel)⟩
theorem lw_p40 : lw_okq (⟨"HummingSet$Answers", "add", "(IIII)V"⟩, 5) := ⟨⟨by decide +kernel, by decide +kernel⟩, List.mem_of_getElem? (i := 72) (by decide +kernel), List.mem_of_getElem? (i := 609) (by decide +kernel), List.mem_of_getElem? (i := 610) (by decide +kernel)⟩
theorem lw_p41 : lw_okq (⟨"HummingSet$Cases", "weightWith", "(I)J"⟩, 4) := ⟨⟨by decide +kernel, by decide +kernel⟩, List.mem_of_getElem? (i := 100) (by decide +kernel), List.mem_of_getElem? (i := 627) (by decide +kernel), List.mem_of_getElem? (i := 628) (by decide +kernel)⟩
theorem lw_p42 : lw_okq (⟨"HummingSet$Cases", "heaviest", "()I"⟩, 4) := ⟨⟨by decide +kernel, by decide +kernel⟩, List.mem_of_getElem? (i := 100) (by decide +kernel), List.mem_of_getElem? (i := 638) (by decide +kernel), List.mem_of_getElem? (i := 639) (by decide +kernel)⟩
theorem lw_p43 : lw_okq (⟨"HummingSet$Search", "find", "(LHummingSet$Wireless;LHummingSet$Bench;LHummingSet$Cases;I)V"⟩, 5) := ⟨⟨by decide +kernel, by decide +kernel⟩, List.mem_of_getElem? (i := 129) (by decide +kernel), List.mem_of_getElem? (i := 646) (by decide +kernel), List.mem_of_getElem? (i := 647) (by decide +kernel)⟩
theorem lw_p44 : lw_okq (⟨"HummingSet$Search", "worstOf", "(LHummingSet$Wireless;LHummingSet$Bench;LHummingSet$Cases;III)J"⟩, 5) := ⟨⟨by decide +kernel, by decide +kernel⟩, List.mem_of_getElem? (i := 129) (by decide +kernel), List.mem_of_getElem? (i := 651) (by decide +kernel), List.mem_of_getElem? (i := 652) (by decide +kernel)⟩
theorem lw_p45 : lw_okq (⟨"HummingSet$Search", "isBetter", "(IJI)Z"⟩, 5) := ⟨⟨by decide +kernel, by decide +kernel⟩, List.mem_of_getElem? (i := 129) (by decide +kernel), List.mem_of_getElem? (i := 661) (by decide +kernel), List.mem_of_getElem? (i := 662) (by decide +kernel)⟩
theorem lw_p46 : lw_okq (⟨"HummingSet$Plan", "cheapest", "(LHummingSet$Wireless;LHummingSet$Cases;I)I"⟩, 3) := ⟨⟨by decide +kernel, by decide +kernel⟩, List.mem_of_getElem? (i := 154) (by decide +kernel), List.mem_of_getElem? (i := 674) (by decide +kernel), List.mem_of_getElem? (i := 675) (by decide +kernel)⟩
theorem lw_p47 : lw_okq (⟨"HummingSet$Wireless", "costOf", "(I)I"⟩, 10) := ⟨⟨by decide +kernel, by decide +kernel⟩, List.mem_of_getElem? (i := 173) (by decide +kernel), List.mem_of_getElem? (i := 678) (by decide +kernel), List.mem_of_getElem? (i := 679) (by decide +kernel)⟩
def lw_privs_3 : List (MethodName × Nat) := [(⟨"HummingSet$Wireless", "asksOf", "(I)I"⟩, 10), (⟨"HummingSet$Wireless", "riskOf", "(II)I"⟩, 10), (⟨"HummingSet$Wireless", "someBearsTooMuch", "(I)Z"⟩, 10), (⟨"HummingSet$Wireless", "someHoldsMuch", "(I)Z"⟩, 10), (⟨"HummingSet$Part", "voltsAfter", "(I)I"⟩, 9), (⟨"HummingSet$Part", "voltsLess", "(I)I"⟩, 9), (⟨"HummingSet$Wireless", "minuteOfNoShock", "()I"⟩, 10), (⟨"HummingSet$Part", "minuteBelowShock", "()I"⟩, 9), (⟨"HummingSet$Answers", "add", "(IIII)V"⟩, 5), (⟨"HummingSet$Cases", "weightWith", "(I)J"⟩, 4), (⟨"HummingSet$Cases", "heaviest", "()I"⟩, 4), (⟨"HummingSet$Search", "find", "(LHummingSet$Wireless;LHummingSet$Bench;LHummingSet$Cases;I)V"⟩, 5), (⟨"HummingSet$Search", "worstOf", "(LHummingSet$Wireless;LHummingSet$Bench;LHummingSet$Cases;III)J"⟩, 5), (⟨"HummingSet$Search", "isBetter", "(IJI)Z"⟩, 5), (⟨"HummingSet$Plan", "cheapest", "(LHummingSet$Wireless;LHummingSet$Cases;I)I"⟩, 3), (⟨"HummingSet$Wireless", "costOf", "(I)I"⟩, 10)]
theorem lw_r3 : ∀ q ∈ lw_privs_3, lw_okq q := List.forall_mem_cons.mpr ⟨lw_p32, List.forall_mem_cons.mpr ⟨lw_p33, List.forall_mem_cons.mpr ⟨lw_p34, List.forall_mem_cons.mpr ⟨lw_p35, List.forall_mem_cons.mpr ⟨lw_p36, List.forall_mem_cons.mpr ⟨lw_p37, List.forall_mem_cons.mpr ⟨lw_p38, List.forall_mem_cons.mpr ⟨lw_p39, List.forall_mem_cons.mpr ⟨lw_p40, List.forall_mem_cons.mpr ⟨lw_p41, List.forall_mem_cons.mpr ⟨lw_p42, List.forall_mem_cons.mpr ⟨lw_p43, List.forall_mem_cons.mpr ⟨lw_p44, List.forall_mem_cons.mpr ⟨lw_p45, List.forall_mem_cons.mpr ⟨lw_p46, List.forall_mem_cons.mpr ⟨lw_p47, fun _ h => absurd h List.not_mem_nil⟩⟩⟩⟩⟩⟩⟩⟩⟩⟩⟩⟩⟩⟩⟩⟩
theorem lw_p48 : lw_okq (⟨"HummingSet$Plan", "noisyWeight", "(LHummingSet$Cases;I)J"⟩, 3) := ⟨⟨by decide +kernel, by decide +kernel⟩, List.mem_of_getElem? (i := 154) (by decide +kernel), List.mem_of_getElem? (i := 683) (by decide +kernel), List.mem_of_getElem? (i := 684) (by decide +kernel)⟩
theorem lw_p49 : lw_okq (⟨"HummingSet$Plan", "row", "(LHummingSet$Wireless;LHummingSet$Cases;)V"⟩, 3) := ⟨⟨by decide +kernel, by decide +kernel⟩, List.mem_of_getElem? (i := 154) (by decide +kernel), List.mem_of_getElem? (i := 692) (by decide +kernel), List.mem_of_getElem? (i := 693) (by decide +kernel)⟩
theorem lw_p50 : lw_okq (⟨"HummingSet$Plan", "goOn", "(LHummingSet$Wireless;IJ)V"⟩, 3) := ⟨⟨by decide +kernel, by decide +kernel⟩, List.mem_of_getElem? (i := 154) (by decide +kernel), List.mem_of_getElem? (i := 697) (by decide +kernel), List.mem_of_getElem? (i := 698) (by decide +kernel)⟩
theorem lw_p51 : lw_okq (⟨"HummingSet", "loudWarm", "(I)I"⟩, 12) := ⟨⟨by decide +kernel, by decide +kernel⟩, List.mem_of_getElem? (i := 17) (by decide +kernel), List.mem_of_getElem? (i := 705) (by decide +kernel), List.mem_of_getElem? (i := 706) (by decide +kernel)⟩
theorem lw_p52 : lw_okq (⟨"HummingSet$Wireless", "tonesHowling", "()I"⟩, 10) := ⟨⟨by decide +kernel, by decide +kernel⟩, List.mem_of_getElem? (i := 173) (by decide +kernel), List.mem_of_getElem? (i := 713) (by decide +kernel), List.mem_of_getElem? (i := 714) (by decide +kernel)⟩
theorem lw_p53 : lw_okq (⟨"HummingSet$Wireless", "bringsItsOwn", "(LHummingSet$Way;)Z"⟩, 10) := ⟨⟨by decide +kernel, by decide +kernel⟩, List.mem_of_getElem? (i := 173) (by decide +kernel), List.mem_of_getElem? (i := 717) (by decide +kernel), List.mem_of_getElem? (i := 718) (by decide +kernel)⟩
theorem lw_p54 : lw_okq (⟨"HummingSet$Wireless", "goneOf", "(II)I"⟩, 10) := ⟨⟨by decide +kernel, by decide +kernel⟩, List.mem_of_getElem? (i := 173) (by decide +kernel), List.mem_of_getElem? (i := 727) (by decide +kernel), List.mem_of_getElem? (i := 728) (by decide +kernel)⟩
theorem lw_p55 : lw_okq (⟨"HummingSet$Answers", "copyFrom", "(LHummingSet$Answers;)V"⟩, 5) := ⟨⟨by decide +kernel, by decide +kernel⟩, List.mem_of_getElem? (i := 72) (by decide +kernel), List.mem_of_getElem? (i := 749) (by decide +kernel), List.mem_of_getElem? (i := 750) (by decide +kernel)⟩
theorem lw_p56 : lw_okq (⟨"HummingSetModel", "noSet", "(I)V"⟩, 38) := ⟨⟨by decide +kernel, by decide +kernel⟩, List.mem_of_getElem? (i := 762) (by decide +kernel), List.mem_of_getElem? (i := 768) (by decide +kernel), List.mem_of_getElem? (i := 769) (by decide +kernel)⟩
theorem lw_p57 : lw_okq (⟨"HummingSetModel", "noPart", "(I)V"⟩, 38) := ⟨⟨by decide +kernel, by decide +kernel⟩, List.mem_of_getElem? (i := 762) (by decide +kernel), List.mem_of_getElem? (i := 772) (by decide +kernel), List.mem_of_getElem? (i := 773) (by decide +kernel)⟩
theorem lw_p58 : lw_okq (⟨"HummingSetModel", "readAll", "()I"⟩, 38) := ⟨⟨by decide +kernel, by decide +kernel⟩, List.mem_of_getElem? (i := 762) (by decide +kernel), List.mem_of_getElem? (i := 908) (by decide +kernel), List.mem_of_getElem? (i := 909) (by decide +kernel)⟩
theorem lw_p59 : lw_okq (⟨"HummingSetModel", "item", "()Z"⟩, 38) := ⟨⟨by decide +kernel, by decide +kernel⟩, List.mem_of_getElem? (i := 762) (by decide +kernel), List.mem_of_getElem? (i := 912) (by decide +kernel), List.mem_of_getElem? (i := 913) (by decide +kernel)⟩
theorem lw_p60 : lw_okq (⟨"HummingSetModel", "byteAt", "(I)I"⟩, 38) := ⟨⟨by decide +kernel, by decide +kernel⟩, List.mem_of_getElem? (i := 762) (by decide +kernel), List.mem_of_getElem? (i := 916) (by decide +kernel), List.mem_of_getElem? (i := 917) (by decide +kernel)⟩
theorem lw_p61 : lw_okq (⟨"HummingSetModel", "stageItem", "()Z"⟩, 38) := ⟨⟨by decide +kernel, by decide +kernel⟩, List.mem_of_getElem? (i := 762) (by decide +kernel), List.mem_of_getElem? (i := 920) (by decide +kernel), List.mem_of_getElem? (i := 921) (by decide +kernel)⟩
theorem lw_p62 : lw_okq (⟨"HummingSetModel", "figures", "(I)Z"⟩, 38) := ⟨⟨by decide +kernel, by decide +kernel⟩, List.mem_of_getElem? (i := 762) (by decide +kernel), List.mem_of_getElem? (i := 924) (by decide +kernel), List.mem_of_getElem? (i := 925) (by decide +kernel)⟩
theorem lw_p63 : lw_okq (⟨"HummingSetModel", "partItem", "()Z"⟩, 38) := ⟨⟨by decide +kernel, by decide +kernel⟩, List.mem_of_getElem? (i := 762) (by decide +kernel), List.mem_of_getElem? (i := 933) (by decide +kernel), List.mem_of_getElem? (i := 934) (by decide +kernel)⟩
def lw_privs_4 : List (MethodName × Nat) := [(⟨"HummingSet$Plan", "noisyWeight", "(LHummingSet$Cases;I)J"⟩, 3), (⟨"HummingSet$Plan", "row", "(LHummingSet$Wireless;LHummingSet$Cases;)V"⟩, 3), (⟨"HummingSet$Plan", "goOn", "(LHummingSet$Wireless;IJ)V"⟩, 3), (⟨"HummingSet", "loudWarm", "(I)I"⟩, 12), (⟨"HummingSet$Wireless", "tonesHowling", "()I"⟩, 10), (⟨"HummingSet$Wireless", "bringsItsOwn", "(LHummingSet$Way;)Z"⟩, 10), (⟨"HummingSet$Wireless", "goneOf", "(II)I"⟩, 10), (⟨"HummingSet$Answers", "copyFrom", "(LHummingSet$Answers;)V"⟩, 5), (⟨"HummingSetModel", "noSet", "(I)V"⟩, 38), (⟨"HummingSetModel", "noPart", "(I)V"⟩, 38), (⟨"HummingSetModel", "readAll", "()I"⟩, 38), (⟨"HummingSetModel", "item", "()Z"⟩, 38), (⟨"HummingSetModel", "byteAt", "(I)I"⟩, 38), (⟨"HummingSetModel", "stageItem", "()Z"⟩, 38), (⟨"HummingSetModel", "figures", "(I)Z"⟩, 38), (⟨"HummingSetModel", "partItem", "()Z"⟩, 38)]
theorem lw_r4 : ∀ q ∈ lw_privs_4, lw_okq q := List.forall_mem_cons.mpr ⟨lw_p48, List.forall_mem_cons.mpr ⟨lw_p49, List.forall_mem_cons.mpr ⟨lw_p50, List.forall_mem_cons.mpr ⟨lw_p51, List.forall_mem_cons.mpr ⟨lw_p52, List.forall_mem_cons.mpr ⟨lw_p53, List.forall_mem_cons.mpr ⟨lw_p54, List.forall_mem_cons.mpr ⟨lw_p55, List.forall_mem_cons.mpr ⟨lw_p56, List.forall_mem_cons.mpr ⟨lw_p57, List.forall_mem_cons.mpr ⟨lw_p58, List.forall_mem_cons.mpr ⟨lw_p59, List.forall_mem_cons.mpr ⟨lw_p60, List.forall_mem_cons.mpr ⟨lw_p61, List.forall_mem_cons.mpr ⟨lw_p62, List.forall_mem_cons.mpr ⟨lw_p63, fun _ h => absurd h List.not_mem_nil⟩⟩⟩⟩⟩⟩⟩⟩⟩⟩⟩⟩⟩⟩⟩⟩
theorem lw_p64 : lw_okq (⟨"HummingSetModel", "isStageTold", "()Z"⟩, 38) := ⟨⟨by decide +kernel, by decide +kernel⟩, List.mem_of_getElem? (i := 762) (by decide +kernel), List.mem_of_getElem? (i := 937) (by decide +kernel), List.mem_of_getElem? (i := 938) (by decide +kernel)⟩
theorem lw_p65 : lw_okq (⟨"HummingSetModel", "letItem", "()Z"⟩, 38) := ⟨⟨by decide +kernel, by decide +kernel⟩, List.mem_of_getElem? (i := 762) (by decide +kernel), List.mem_of_getElem? (i := 944) (by decide +kernel), List.mem_of_getElem? (i := 945) (by decide +kernel)⟩
theorem lw_p66 : lw_okq (⟨"HummingSetModel", "isPartTold", "()Z"⟩, 38) := ⟨⟨by decide +kernel, by decide +kernel⟩, List.mem_of_getElem? (i := 762) (by decide +kernel), List.mem_of_getElem? (i := 948) (by decide +kernel), List.mem_of_getElem? (i := 949) (by decide +kernel)⟩
theorem lw_p67 : lw_okq (⟨"HummingSetModel", "comeItem", "()Z"⟩, 38) := ⟨⟨by decide +kernel, by decide +kernel⟩, List.mem_of_getElem? (i := 762) (by decide +kernel), List.mem_of_getElem? (i := 954) (by decide +kernel), List.mem_of_getElem? (i := 955) (by decide +kernel)⟩
theorem lw_p68 : lw_okq (⟨"HummingSetModel", "wayItem", "()Z"⟩, 38) := ⟨⟨by decide +kernel, by decide +kernel⟩, List.mem_of_getElem? (i := 762) (by decide +kernel), List.mem_of_getElem? (i := 958) (by decide +kernel), List.mem_of_getElem? (i := 959) (by decide +kernel)⟩
theorem lw_p69 : lw_okq (⟨"HummingSetModel", "isPart", "(I)Z"⟩, 38) := ⟨⟨by decide +kernel, by decide +kernel⟩, List.mem_of_getElem? (i := 762) (by decide +kernel), List.mem_of_getElem? (i := 974) (by decide +kernel), List.mem_of_getElem? (i := 975) (by decide +kernel)⟩
theorem lw_p70 : lw_okq (⟨"HummingSetModel", "isState", "(I)Z"⟩, 38) := ⟨⟨by decide +kernel, by decide +kernel⟩, List.mem_of_getElem? (i := 762) (by decide +kernel), List.mem_of_getElem? (i := 983) (by decide +kernel), List.mem_of_getElem? (i := 984) (by decide +kernel)⟩
theorem lw_p71 : lw_okq (⟨"HummingSetModel", "endOf", "(IIIII)I"⟩, 38) := ⟨⟨by decide +kernel, by decide +kernel⟩, List.mem_of_getElem? (i := 762) (by decide +kernel), List.mem_of_getElem? (i := 990) (by decide +kernel), List.mem_of_getElem? (i := 991) (by decide +kernel)⟩
theorem lw_p72 : lw_okq (⟨"HummingSetModel", "inOf", "(IIIIII)I"⟩, 38) := ⟨⟨by decide +kernel, by decide +kernel⟩, List.mem_of_getElem? (i := 762) (by decide +kernel), List.mem_of_getElem? (i := 994) (by decide +kernel), List.mem_of_getElem? (i := 995) (by decide +kernel)⟩
theorem lw_p73 : lw_okq (⟨"HummingSetModel", "isStage", "(I)Z"⟩, 38) := ⟨⟨by decide +kernel, by decide +kernel⟩, List.mem_of_getElem? (i := 762) (by decide +kernel), List.mem_of_getElem? (i := 1006) (by decide +kernel), List.mem_of_getElem? (i := 1007) (by decide +kernel)⟩
theorem lw_p74 : lw_okq (⟨"HummingSetModel", "heardOf", "(IIII)I"⟩, 38) := ⟨⟨by decide +kernel, by decide +kernel⟩, List.mem_of_getElem? (i := 762) (by decide +kernel), List.mem_of_getElem? (i := 1014) (by decide +kernel), List.mem_of_getElem? (i := 1015) (by decide +kernel)⟩
theorem lw_p75 : lw_okq (⟨"HummingSetModel", "isAsk", "(II)Z"⟩, 38) := ⟨⟨by decide +kernel, by decide +kernel⟩, List.mem_of_getElem? (i := 762) (by decide +kernel), List.mem_of_getElem? (i := 1025) (by decide +kernel), List.mem_of_getElem? (i := 1026) (by decide +kernel)⟩
theorem lw_p76 : lw_okq (⟨"HummingSetModel", "askOf0", "(IIII)I"⟩, 38) := ⟨⟨by decide +kernel, by decide +kernel⟩, List.mem_of_getElem? (i := 762) (by decide +kernel), List.mem_of_getElem? (i := 1029) (by decide +kernel), List.mem_of_getElem? (i := 1030) (by decide +kernel)⟩
theorem lw_p77 : lw_okq (⟨"HummingSetModel", "riskOf", "(II)I"⟩, 38) := ⟨⟨by decide +kernel, by decide +kernel⟩, List.mem_of_getElem? (i := 762) (by decide +kernel), List.mem_of_getElem? (i := 1037) (by decide +kernel), List.mem_of_getElem? (i := 1038) (by decide +kernel)⟩
theorem lw_p78 : lw_okq (⟨"HummingSetModel", "voltsOf", "(II)I"⟩, 38) := ⟨⟨by decide +kernel, by decide +kernel⟩, List.mem_of_getElem? (i := 762) (by decide +kernel), List.mem_of_getElem? (i := 1045) (by decide +kernel), List.mem_of_getElem? (i := 1046) (by decide +kernel)⟩
theorem lw_p79 : lw_okq (⟨"HummingSetModel", "layStates", "()V"⟩, 38) := ⟨⟨by decide +kernel, by decide +kernel⟩, List.mem_of_getElem? (i := 762) (by decide +kernel), List.mem_of_getElem? (i := 1066) (by decide +kernel), List.mem_of_getElem? (i := 1067) (by decide +kernel)⟩
def lw_privs_5 : List (MethodName × Nat) := [(⟨"HummingSetModel", "isStageTold", "()Z"⟩, 38), (⟨"HummingSetModel", "letItem", "()Z"⟩, 38), (⟨"HummingSetModel", "isPartTold", "()Z"⟩, 38), (⟨"HummingSetModel", "comeItem", "()Z"⟩, 38), (⟨"HummingSetModel", "wayItem", "()Z"⟩, 38), (⟨"HummingSetModel", "isPart", "(I)Z"⟩, 38), (⟨"HummingSetModel", "isState", "(I)Z"⟩, 38), (⟨"HummingSetModel", "endOf", "(IIIII)I"⟩, 38), (⟨"HummingSetModel", "inOf", "(IIIIII)I"⟩, 38), (⟨"HummingSetModel", "isStage", "(I)Z"⟩, 38), (⟨"HummingSetModel", "heardOf", "(IIII)I"⟩, 38), (⟨"HummingSetModel", "isAsk", "(II)Z"⟩, 38), (⟨"HummingSetModel", "askOf0", "(IIII)I"⟩, 38), (⟨"HummingSetModel", "riskOf", "(II)I"⟩, 38), (⟨"HummingSetModel", "voltsOf", "(II)I"⟩, 38), (⟨"HummingSetModel", "layStates", "()V"⟩, 38)]
theorem lw_r5 : ∀ q ∈ lw_privs_5, lw_okq q := List.forall_mem_cons.mpr ⟨lw_p64, List.forall_mem_cons.mpr ⟨lw_p65, List.forall_mem_cons.mpr ⟨lw_p66, List.forall_mem_cons.mpr ⟨lw_p67, List.forall_mem_cons.mpr ⟨lw_p68, List.forall_mem_cons.mpr ⟨lw_p69, List.forall_mem_cons.mpr ⟨lw_p70, List.forall_mem_cons.mpr ⟨lw_p71, List.forall_mem_cons.mpr ⟨lw_p72, List.forall_mem_cons.mpr ⟨lw_p73, List.forall_mem_cons.mpr ⟨lw_p74, List.forall_mem_cons.mpr ⟨lw_p75, List.forall_mem_cons.mpr ⟨lw_p76, List.forall_mem_cons.mpr ⟨lw_p77, List.forall_mem_cons.mpr ⟨lw_p78, List.forall_mem_cons.mpr ⟨lw_p79, fun _ h => absurd h List.not_mem_nil⟩⟩⟩⟩⟩⟩⟩⟩⟩⟩⟩⟩⟩⟩⟩⟩
theorem lw_p80 : lw_okq (⟨"HummingSetModel", "weightOf", "(I)J"⟩, 38) := ⟨⟨by decide +kernel, by decide +kernel⟩, List.mem_of_getElem? (i := 762) (by decide +kernel), List.mem_of_getElem? (i := 1073) (by decide +kernel), List.mem_of_getElem? (i := 1074) (by decide +kernel)⟩
theorem lw_p81 : lw_okq (⟨"HummingSetModel", "fits", "(I)Z"⟩, 38) := ⟨⟨by decide +kernel, by decide +kernel⟩, List.mem_of_getElem? (i := 762) (by decide +kernel), List.mem_of_getElem? (i := 1077) (by decide +kernel), List.mem_of_getElem? (i := 1078) (by decide +kernel)⟩
theorem lw_p82 : lw_okq (⟨"HummingSetModel", "weightOfAll", "()J"⟩, 38) := ⟨⟨by decide +kernel, by decide +kernel⟩, List.mem_of_getElem? (i := 762) (by decide +kernel), List.mem_of_getElem? (i := 1081) (by decide +kernel), List.mem_of_getElem? (i := 1082) (by decide +kernel)⟩
theorem lw_p83 : lw_okq (⟨"HummingSetModel", "worstOf", "(III)J"⟩, 38) := ⟨⟨by decide +kernel, by decide +kernel⟩, List.mem_of_getElem? (i := 762) (by decide +kernel), List.mem_of_getElem? (i := 1101) (by decide +kernel), List.mem_of_getElem? (i := 1102) (by decide +kernel)⟩
theorem lw_p84 : lw_okq (⟨"HummingSetModel", "isQuiet", "(I)Z"⟩, 38) := ⟨⟨by decide +kernel, by decide +kernel⟩, List.mem_of_getElem? (i := 762) (by decide +kernel), List.mem_of_getElem? (i := 1113) (by decide +kernel), List.mem_of_getElem? (i := 1114) (by decide +kernel)⟩
theorem lw_p85 : lw_okq (⟨"HummingSetModel", "costOf", "(I)I"⟩, 38) := ⟨⟨by decide +kernel, by decide +kernel⟩, List.mem_of_getElem? (i := 762) (by decide +kernel), List.mem_of_getElem? (i := 1117) (by decide +kernel), List.mem_of_getElem? (i := 1118) (by decide +kernel)⟩
theorem lw_p86 : lw_okq (⟨"HummingSetModel", "layRows", "()V"⟩, 38) := ⟨⟨by decide +kernel, by decide +kernel⟩, List.mem_of_getElem? (i := 762) (by decide +kernel), List.mem_of_getElem? (i := 1125) (by decide +kernel), List.mem_of_getElem? (i := 1126) (by decide +kernel)⟩
theorem lw_p87 : lw_okq (⟨"HummingSetModel", "hums", "(I)J"⟩, 38) := ⟨⟨by decide +kernel, by decide +kernel⟩, List.mem_of_getElem? (i := 762) (by decide +kernel), List.mem_of_getElem? (i := 1129) (by decide +kernel), List.mem_of_getElem? (i := 1130) (by decide +kernel)⟩
theorem lw_p88 : lw_okq (⟨"HummingSetModel", "loudOf", "(I)I"⟩, 38) := ⟨⟨by decide +kernel, by decide +kernel⟩, List.mem_of_getElem? (i := 762) (by decide +kernel), List.mem_of_getElem? (i := 1137) (by decide +kernel), List.mem_of_getElem? (i := 1138) (by decide +kernel)⟩
theorem lw_p89 : lw_okq (⟨"HummingSetModel", "goesOf", "(II)I"⟩, 38) := ⟨⟨by decide +kernel, by decide +kernel⟩, List.mem_of_getElem? (i := 762) (by decide +kernel), List.mem_of_getElem? (i := 1150) (by decide +kernel), List.mem_of_getElem? (i := 1151) (by decide +kernel)⟩
theorem lw_p90 : lw_okq (⟨"HummingSetModel", "copy", "(II)V"⟩, 38) := ⟨⟨by decide +kernel, by decide +kernel⟩, List.mem_of_getElem? (i := 762) (by decide +kernel), List.mem_of_getElem? (i := 1172) (by decide +kernel), List.mem_of_getElem? (i := 1173) (by decide +kernel)⟩
def lw_privs_6 : List (MethodName × Nat) := [(⟨"HummingSetModel", "weightOf", "(I)J"⟩, 38), (⟨"HummingSetModel", "fits", "(I)Z"⟩, 38), (⟨"HummingSetModel", "weightOfAll", "()J"⟩, 38), (⟨"HummingSetModel", "worstOf", "(III)J"⟩, 38), (⟨"HummingSetModel", "isQuiet", "(I)Z"⟩, 38), (⟨"HummingSetModel", "costOf", "(I)I"⟩, 38), (⟨"HummingSetModel", "layRows", "()V"⟩, 38), (⟨"HummingSetModel", "hums", "(I)J"⟩, 38), (⟨"HummingSetModel", "loudOf", "(I)I"⟩, 38), (⟨"HummingSetModel", "goesOf", "(II)I"⟩, 38), (⟨"HummingSetModel", "copy", "(II)V"⟩, 38)]
theorem lw_r6 : ∀ q ∈ lw_privs_6, lw_okq q := List.forall_mem_cons.mpr ⟨lw_p80, List.forall_mem_cons.mpr ⟨lw_p81, List.forall_mem_cons.mpr ⟨lw_p82, List.forall_mem_cons.mpr ⟨lw_p83, List.forall_mem_cons.mpr ⟨lw_p84, List.forall_mem_cons.mpr ⟨lw_p85, List.forall_mem_cons.mpr ⟨lw_p86, List.forall_mem_cons.mpr ⟨lw_p87, List.forall_mem_cons.mpr ⟨lw_p88, List.forall_mem_cons.mpr ⟨lw_p89, List.forall_mem_cons.mpr ⟨lw_p90, fun _ h => absurd h List.not_mem_nil⟩⟩⟩⟩⟩⟩⟩⟩⟩⟩⟩
def lw_privs : List (MethodName × Nat) := lw_privs_1 ++ (lw_privs_2 ++ (lw_privs_3 ++ (lw_privs_4 ++ (lw_privs_5 ++ (lw_privs_6)))))
def lw_tbl : List Cond := k2_sels lw_privs ++ tables_1
theorem lw_privs_ok : ∀ q ∈ lw_privs, lw_okq q := by
  show ∀ q ∈ lw_privs_1 ++ (lw_privs_2 ++ (lw_privs_3 ++ (lw_privs_4 ++ (lw_privs_5 ++ (lw_privs_6))))), lw_okq q
  exact List.forall_mem_append.mpr ⟨lw_r1, List.forall_mem_append.mpr ⟨lw_r2, List.forall_mem_append.mpr ⟨lw_r3, List.forall_mem_append.mpr ⟨lw_r4, List.forall_mem_append.mpr ⟨lw_r5, lw_r6⟩⟩⟩⟩⟩
-- ===== end of PART A; then your names; then what follows =====
end
section
/-! ===== the abstract machine ===== -/
abbrev ZMi : Type := Nat → Nat → Int32
abbrev ZMl : Type := Nat → Nat → Int64
abbrev ZMr : Type := Nat → Nat → Nat
/-- shapes: kind and length, by name -/
abbrev ZKh : Type := Nat → Nat × Nat
abbrev ZNx : Type := Nat → List Value → List Value → ZMi → ZMl → ZMr → Prop
abbrev ZRt : Type := Option Value → ZMi → ZMl → ZMr → Prop
abbrev ZCx : Type := Nat → List Value → ZMi → ZMl → ZMr → ZRt → Prop
abbrev ZIns : Type := ZKh → Nat → ZNx → ZRt → ZCx → List Value → List Value → ZMi → ZMl → ZMr → Prop
def zup {α : Type} (f : Nat → Nat → α) (a k : Nat) (x : α) : Nat → Nat → α := fun b j => if b = a ∧ j = k then x else f b j
theorem zup_s {α : Type} (f : Nat → Nat → α) (a k : Nat) (x : α) : zup f a k x a k = x := by simp [zup]
theorem zup_n {α : Type} (f : Nat → Nat → α) (a k : Nat) (x : α) {b j : Nat} (h : ¬ (b = a ∧ j = k)) : zup f a k x b j = f b j := by simp [zup, h]
theorem zup_na {α : Type} (f : Nat → Nat → α) (a k : Nat) (x : α) {b j : Nat} (h : b ≠ a) : zup f a k x b j = f b j := by simp [zup, h]
theorem zup_nk {α : Type} (f : Nat → Nat → α) (a k : Nat) (x : α) {b j : Nat} (h : j ≠ k) : zup f a k x b j = f b j := by simp [zup, h]
/-- a store into the locals -/
def zkl (ls : List Value) (i : Nat) : List Value := match i with
  | 0 => ls
  | j + 1 => match ls[j]? with
    | some (.long _) => ls.set j .null
    | _ => ls
def zst (ls : List Value) (i : Nat) (v : Value) : List Value := match v with
  | .long x => ((zkl ls i).set i (.long x)).set (i + 1) .null
  | w => (zkl ls i).set i w
/-- arguments off the stack -/
def zarg : Nat → List Value → List Value → Option (List Value × List Value)
  | 0, acc, st => some (acc, st)
  | n + 1, acc, v :: st => zarg n (v :: acc) st
  | _ + 1, _, [] => none
def zsl : List Value → List Value
  | [] => []
  | .long x :: r => .long x :: .null :: zsl r
  | v :: r => v :: zsl r
def zent (n : Nat) (as : List Value) : List Value := zsl as ++ List.replicate (n - (zsl as).length) .null
def zcat (st : List Value) : Bool := Nat.ble ((st.map fun v => v.category).sum) 8
-- constants, locals
def z_ic (v : Int32) (n : Nat) : ZIns := fun _ pc nx _ _ ls st I L R => nx (pc + n) ls (.int v :: st) I L R
def z_lc (v : Int64) (n : Nat) : ZIns := fun _ pc nx _ _ ls st I L R => nx (pc + n) ls (.long v :: st) I L R
def z_il (i n : Nat) : ZIns := fun _ pc nx _ _ ls st I L R => match ls[i]? with
  | some (.int x) => nx (pc + n) ls (.int x :: st) I L R
  | _ => False
def z_ll (i n : Nat) : ZIns := fun _ pc nx _ _ ls st I L R => match ls[i]? with
  | some (.long x) => nx (pc + n) ls (.long x :: st) I L R
  | _ => False
def z_al (i n : Nat) : ZIns := fun _ pc nx _ _ ls st I L R => match ls[i]? with
  | some (.ref x) => nx (pc + n) ls (.ref x :: st) I L R
  | _ => False
def z_is (i n : Nat) : ZIns := fun _ pc nx _ _ ls st I L R => match st with
  | .int x :: r => i < ls.length ∧ nx (pc + n) (zst ls i (.int x)) r I L R
  | _ => False
def z_ls (i n : Nat) : ZIns := fun _ pc nx _ _ ls st I L R => match st with
  | .long x :: r => i + 1 < ls.length ∧ nx (pc + n) (zst ls i (.long x)) r I L R
  | _ => False
def z_as (i n : Nat) : ZIns := fun _ pc nx _ _ ls st I L R => match st with
  | .ref x :: r => i < ls.length ∧ nx (pc + n) (zst ls i (.ref x)) r I L R
  | _ => False
def z_inc (i : Nat) (d : Int32) : ZIns := fun _ pc nx _ _ ls st I L R => match ls[i]? with
  | some (.int x) => ∃ y : Int32, x + d = y ∧ nx (pc + 3) (zst ls i (.int y)) st I L R
  | _ => False
-- arithmetic
def z_iadd : ZIns := fun _ pc nx _ _ ls st I L R => match st with
  | .int y :: .int x :: r => nx (pc + 1) ls (.int (x + y) :: r) I L R
  | _ => False
def z_isub : ZIns := fun _ pc nx _ _ ls st I L R => match st with
  | .int y :: .int x :: r => nx (pc + 1) ls (.int (x - y) :: r) I L R
  | _ => False
def z_imul : ZIns := fun _ pc nx _ _ ls st I L R => match st with
  | .int y :: .int x :: r => nx (pc + 1) ls (.int (x * y) :: r) I L R
  | _ => False
def z_iand : ZIns := fun _ pc nx _ _ ls st I L R => match st with
  | .int y :: .int x :: r => nx (pc + 1) ls (.int (x &&& y) :: r) I L R
  | _ => False
def z_ior : ZIns := fun _ pc nx _ _ ls st I L R => match st with
  | .int y :: .int x :: r => nx (pc + 1) ls (.int (x ||| y) :: r) I L R
  | _ => False
def z_ixor : ZIns := fun _ pc nx _ _ ls st I L R => match st with
  | .int y :: .int x :: r => nx (pc + 1) ls (.int (x ^^^ y) :: r) I L R
  | _ => False
def z_idiv : ZIns := fun _ pc nx _ _ ls st I L R => match st with
  | .int y :: .int x :: r => ¬ y = 0 ∧ nx (pc + 1) ls (.int (x / y) :: r) I L R
  | _ => False
def z_irem : ZIns := fun _ pc nx _ _ ls st I L R => match st with
  | .int y :: .int x :: r => ¬ y = 0 ∧ nx (pc + 1) ls (.int (x - x / y * y) :: r) I L R
  | _ => False
def z_ineg : ZIns := fun _ pc nx _ _ ls st I L R => match st with
  | .int x :: r => nx (pc + 1) ls (.int (-x) :: r) I L R
  | _ => False
def z_ishl : ZIns := fun _ pc nx _ _ ls st I L R => match st with
  | .int y :: .int x :: r => nx (pc + 1) ls (.int (x <<< (y &&& 31)) :: r) I L R
  | _ => False
def z_ishr : ZIns := fun _ pc nx _ _ ls st I L R => match st with
  | .int y :: .int x :: r => nx (pc + 1) ls (.int (x >>> (y &&& 31)) :: r) I L R
  | _ => False
def z_iushr : ZIns := fun _ pc nx _ _ ls st I L R => match st with
  | .int y :: .int x :: r => nx (pc + 1) ls (.int ((x.toUInt32 >>> (y.toUInt32 &&& Int32.toUInt32 31)).toInt32) :: r) I L R
  | _ => False
def z_ladd : ZIns := fun _ pc nx _ _ ls st I L R => match st with
  | .long y :: .long x :: r => nx (pc + 1) ls (.long (x + y) :: r) I L R
  | _ => False
def z_lsub : ZIns := fun _ pc nx _ _ ls st I L R => match st with
  | .long y :: .long x :: r => nx (pc + 1) ls (.long (x - y) :: r) I L R
  | _ => False
def z_lmul : ZIns := fun _ pc nx _ _ ls st I L R => match st with
  | .long y :: .long x :: r => nx (pc + 1) ls (.long (x * y) :: r) I L R
  | _ => False
def z_land : ZIns := fun _ pc nx _ _ ls st I L R => match st with
  | .long y :: .long x :: r => nx (pc + 1) ls (.long (x &&& y) :: r) I L R
  | _ => False
def z_lor : ZIns := fun _ pc nx _ _ ls st I L R => match st with
  | .long y :: .long x :: r => nx (pc + 1) ls (.long (x ||| y) :: r) I L R
  | _ => False
def z_ldiv : ZIns := fun _ pc nx _ _ ls st I L R => match st with
  | .long y :: .long x :: r => ¬ y = 0 ∧ nx (pc + 1) ls (.long (x / y) :: r) I L R
  | _ => False
def z_lrem : ZIns := fun _ pc nx _ _ ls st I L R => match st with
  | .long y :: .long x :: r => ¬ y = 0 ∧ nx (pc + 1) ls (.long (x - x / y * y) :: r) I L R
  | _ => False
def z_lshl : ZIns := fun _ pc nx _ _ ls st I L R => match st with
  | .int y :: .long x :: r => nx (pc + 1) ls (.long (x <<< (y.toInt64 &&& 63)) :: r) I L R
  | _ => False
def z_lshr : ZIns := fun _ pc nx _ _ ls st I L R => match st with
  | .int y :: .long x :: r => nx (pc + 1) ls (.long (x >>> (y.toInt64 &&& 63)) :: r) I L R
  | _ => False
def z_lushr : ZIns := fun _ pc nx _ _ ls st I L R => match st with
  | .int y :: .long x :: r => nx (pc + 1) ls (.long ((x.toUInt64 >>> (y.toInt64.toUInt64 &&& Int64.toUInt64 63)).toInt64) :: r) I L R
  | _ => False
def z_i2l : ZIns := fun _ pc nx _ _ ls st I L R => match st with
  | .int x :: r => nx (pc + 1) ls (.long x.toInt64 :: r) I L R
  | _ => False
def z_l2i : ZIns := fun _ pc nx _ _ ls st I L R => match st with
  | .long x :: r => nx (pc + 1) ls (.int x.toInt32 :: r) I L R
  | _ => False
def z_i2b : ZIns := fun _ pc nx _ _ ls st I L R => match st with
  | .int x :: r => nx (pc + 1) ls (.int x.toInt8.toInt32 :: r) I L R
  | _ => False
def z_lcmp : ZIns := fun _ pc nx _ _ ls st I L R => match st with
  | .long y :: .long x :: r => nx (pc + 1) ls (.int (lg_cmp x y) :: r) I L R
  | _ => False
-- stack
def z_dup : ZIns := fun _ pc nx _ _ ls st I L R => match st with
  | v :: r => v.category = 1 ∧ nx (pc + 1) ls (v :: v :: r) I L R
  | _ => False
def z_dup2 : ZIns := fun _ pc nx _ _ ls st I L R => match st with
  | v :: w :: r => v.category = 1 ∧ w.category = 1 ∧ nx (pc + 1) ls (v :: w :: v :: w :: r) I L R
  | _ => False
def z_pop : ZIns := fun _ pc nx _ _ ls st I L R => match st with
  | v :: r => v.category = 1 ∧ nx (pc + 1) ls r I L R
  | _ => False
-- branches
def z_goto (t : Nat) : ZIns := fun _ _ nx _ _ ls st I L R => nx t ls st I L R
def z_ifeq (t : Nat) : ZIns := fun _ pc nx _ _ ls st I L R => match st with
  | .int x :: r => (x = 0 → nx t ls r I L R) ∧ (¬ x = 0 → nx (pc + 3) ls r I L R)
  | _ => False
def z_ifne (t : Nat) : ZIns := fun _ pc nx _ _ ls st I L R => match st with
  | .int x :: r => (¬ x = 0 → nx t ls r I L R) ∧ (x = 0 → nx (pc + 3) ls r I L R)
  | _ => False
def z_iflt (t : Nat) : ZIns := fun _ pc nx _ _ ls st I L R => match st with
  | .int x :: r => (x < 0 → nx t ls r I L R) ∧ (¬ x < 0 → nx (pc + 3) ls r I L R)
  | _ => False
def z_ifge (t : Nat) : ZIns := fun _ pc nx _ _ ls st I L R => match st with
  | .int x :: r => (0 ≤ x → nx t ls r I L R) ∧ (¬ 0 ≤ x → nx (pc + 3) ls r I L R)
  | _ => False
def z_ifgt (t : Nat) : ZIns := fun _ pc nx _ _ ls st I L R => match st with
  | .int x :: r => (0 < x → nx t ls r I L R) ∧ (¬ 0 < x → nx (pc + 3) ls r I L R)
  | _ => False
def z_ifle (t : Nat) : ZIns := fun _ pc nx _ _ ls st I L R => match st with
  | .int x :: r => (x ≤ 0 → nx t ls r I L R) ∧ (¬ x ≤ 0 → nx (pc + 3) ls r I L R)
  | _ => False
def z_ieq (t : Nat) : ZIns := fun _ pc nx _ _ ls st I L R => match st with
  | .int y :: .int x :: r => (x = y → nx t ls r I L R) ∧ (¬ x = y → nx (pc + 3) ls r I L R)
  | _ => False
def z_ine (t : Nat) : ZIns := fun _ pc nx _ _ ls st I L R => match st with
  | .int y :: .int x :: r => (¬ x = y → nx t ls r I L R) ∧ (x = y → nx (pc + 3) ls r I L R)
  | _ => False
def z_ilt (t : Nat) : ZIns := fun _ pc nx _ _ ls st I L R => match st with
  | .int y :: .int x :: r => (x < y → nx t ls r I L R) ∧ (¬ x < y → nx (pc + 3) ls r I L R)
  | _ => False
def z_ige (t : Nat) : ZIns := fun _ pc nx _ _ ls st I L R => match st with
  | .int y :: .int x :: r => (y ≤ x → nx t ls r I L R) ∧ (¬ y ≤ x → nx (pc + 3) ls r I L R)
  | _ => False
def z_igt (t : Nat) : ZIns := fun _ pc nx _ _ ls st I L R => match st with
  | .int y :: .int x :: r => (y < x → nx t ls r I L R) ∧ (¬ y < x → nx (pc + 3) ls r I L R)
  | _ => False
def z_ile (t : Nat) : ZIns := fun _ pc nx _ _ ls st I L R => match st with
  | .int y :: .int x :: r => (x ≤ y → nx t ls r I L R) ∧ (¬ x ≤ y → nx (pc + 3) ls r I L R)
  | _ => False
/-- a switch: the cases in their order, then the default -/
def zsw (x : Int32) (d : Prop) (nx : Nat → Prop) : List (Int32 × Nat) → Prop
  | [] => d
  | q :: r => (x = q.1 → nx q.2) ∧ (¬ x = q.1 → zsw x d nx r)
def z_sw (d : Nat) (qs : List (Int32 × Nat)) : ZIns := fun _ _ nx _ _ ls st I L R => match st with
  | .int x :: r => zsw x (nx d ls r I L R) (fun t => nx t ls r I L R) qs
  | _ => False
-- memory
def z_gI (ci k : Nat) : ZIns := fun K pc nx _ _ ls st I L R => match st with
  | .ref a :: r => (K a).1 = ci ∧ ∃ x : Int32, I a k = x ∧ nx (pc + 3) ls (.int x :: r) I L R
  | _ => False
def z_gL (ci k : Nat) : ZIns := fun K pc nx _ _ ls st I L R => match st with
  | .ref a :: r => (K a).1 = ci ∧ ∃ x : Int64, L a k = x ∧ nx (pc + 3) ls (.long x :: r) I L R
  | _ => False
def z_gR (ci k : Nat) : ZIns := fun K pc nx _ _ ls st I L R => match st with
  | .ref a :: r => (K a).1 = ci ∧ ∃ x : Nat, R a k = x + 1 ∧ nx (pc + 3) ls (.ref x :: r) I L R
  | _ => False
def z_pI (ci k : Nat) : ZIns := fun K pc nx _ _ ls st I L R => match st with
  | .int x :: .ref a :: r => (K a).1 = ci ∧ nx (pc + 3) ls r (zup I a k x) L R
  | _ => False
def z_pL (ci k : Nat) : ZIns := fun K pc nx _ _ ls st I L R => match st with
  | .long x :: .ref a :: r => (K a).1 = ci ∧ nx (pc + 3) ls r I (zup L a k x) R
  | _ => False
def z_pR (ci k : Nat) : ZIns := fun K pc nx _ _ ls st I L R => match st with
  | .ref x :: .ref a :: r => (K a).1 = ci ∧ nx (pc + 3) ls r I L (zup R a k (x + 1))
  | _ => False
/-- an int out of an array of kind kd (int[], byte[], boolean[], a read-only int[]) -/
def z_iald (kd : Nat) : ZIns := fun K pc nx _ _ ls st I L R => match st with
  | .int i :: .ref a :: r => ∃ (n j : Nat) (x : Int32), K a = (kd, n) ∧ i = nI j ∧ j < n ∧ I a j = x ∧ nx (pc + 1) ls (.int x :: r) I L R
  | _ => False
def z_lald : ZIns := fun K pc nx _ _ ls st I L R => match st with
  | .int i :: .ref a :: r => ∃ (n j : Nat) (x : Int64), K a = (21, n) ∧ i = nI j ∧ j < n ∧ L a j = x ∧ nx (pc + 1) ls (.long x :: r) I L R
  | _ => False
def z_aald (kd : Nat) : ZIns := fun K pc nx _ _ ls st I L R => match st with
  | .int i :: .ref a :: r => ∃ (n j x : Nat), K a = (kd, n) ∧ i = nI j ∧ j < n ∧ R a j = x + 1 ∧ nx (pc + 1) ls (.ref x :: r) I L R
  | _ => False
def z_iast : ZIns := fun K pc nx _ _ ls st I L R => match st with
  | .int x :: .int i :: .ref a :: r => ∃ (n j : Nat), K a = (20, n) ∧ i = nI j ∧ j < n ∧ nx (pc + 1) ls r (zup I a j x) L R
  | _ => False
def z_bast : ZIns := fun K pc nx _ _ ls st I L R => match st with
  | .int x :: .int i :: .ref a :: r => ∃ (n j : Nat), K a = (22, n) ∧ i = nI j ∧ j < n ∧ nx (pc + 1) ls r (zup I a j (vp_nar .byte x)) L R
  | _ => False
def z_zast : ZIns := fun K pc nx _ _ ls st I L R => match st with
  | .int x :: .int i :: .ref a :: r => ∃ (n j : Nat), K a = (23, n) ∧ i = nI j ∧ j < n ∧ nx (pc + 1) ls r (zup I a j (vp_nar .boolean x)) L R
  | _ => False
def z_last : ZIns := fun K pc nx _ _ ls st I L R => match st with
  | .long x :: .int i :: .ref a :: r => ∃ (n j : Nat), K a = (21, n) ∧ i = nI j ∧ j < n ∧ nx (pc + 1) ls r I (zup L a j x) R
  | _ => False
def z_alen (kd : Nat) : ZIns := fun K pc nx _ _ ls st I L R => match st with
  | .ref a :: r => ∃ n : Nat, K a = (kd, n) ∧ nx (pc + 1) ls (.int (nI n) :: r) I L R
  | _ => False
/-- the one static array -/
def z_gs : ZIns := fun _ pc nx _ _ ls st I L R => nx (pc + 3) ls (.ref 1 :: st) I L R
-- calls and returns
def z_cV (ci m' ml na : Nat) : ZIns := fun K pc nx _ cx ls st I L R => match zarg na [] st with
  | some (as, .ref a :: r) => (K a).1 = ci ∧ zcat r = true ∧ cx m' (zent ml (.ref a :: as)) I L R (fun v I' L' R' => nx (pc + 3) ls (v.toList ++ r) I' L' R')
  | _ => False
def z_cS (m' ml na : Nat) : ZIns := fun _ pc nx _ cx ls st I L R => match zarg na [] st with
  | some (as, r) => zcat r = true ∧ cx m' (zent ml as) I L R (fun v I' L' R' => nx (pc + 3) ls (v.toList ++ r) I' L' R')
  | _ => False
def z_ir : ZIns := fun _ _ _ rt _ _ st I L R => match st with
  | [.int v] => rt (some (.int v)) I L R
  | _ => False
def z_lr : ZIns := fun _ _ _ rt _ _ st I L R => match st with
  | [.long v] => rt (some (.long v)) I L R
  | _ => False
def z_vr : ZIns := fun _ _ _ rt _ _ st I L R => match st with
  | [] => rt none I L R
  | _ => False
end
section
/-! ===== the classes, their fields; the words ===== -/
def zWS : List Cond := lw_tbl.filter goodWord
def zisN : Cond → Bool
  | .fieldLinkNest _ _ _ _ _ _ => true
  | .methodLinkNest _ _ _ _ => true
  | _ => false
def zNW : List Cond := tables_1.filter zisN
theorem zmW {w : Cond} (i : Nat) (h : tables_1[i]? = some w) (hg : goodWord w = true) : w ∈ zWS := List.mem_filter.mpr ⟨List.mem_append_right _ (List.mem_of_getElem? h), hg⟩
theorem zmS {w : Cond} (i : Nat) (h : (k2_sels lw_privs)[i]? = some w) (hg : goodWord w = true) : w ∈ zWS := List.mem_filter.mpr ⟨List.mem_append_left _ (List.mem_of_getElem? h), hg⟩
theorem zmN {w : Cond} (i : Nat) (h : tables_1[i]? = some w) (hg : zisN w = true) : w ∈ zNW := List.mem_filter.mpr ⟨List.mem_of_getElem? h, hg⟩
theorem zgood : GoodIn zWS zWS := fun _ h => ⟨h, good_of_word (List.mem_filter.mp h).2⟩
theorem zgoodc {w : Cond} (h : w ∈ zWS) : GoodIn zWS (w :: zWS) := fun v hv => (List.mem_cons.mp hv).elim (fun e => by rw [e]; exact zgood w h) (zgood v)
theorem zNW_warm {s U : State} (hW : s.WarmedH U.vm) (h : ∀ w ∈ zNW, va_Nw w s) : ∀ w ∈ zNW, va_Nw w U := by
  intro w hw
  have h1 := (List.mem_filter.mp hw).2
  have h2 := h w hw
  cases w <;> first | exact va_Nw.warmF hW h2 | exact va_Nw.warmM hW h2 | (simp [zisN] at h1)
theorem zNW_same {s U : State} (hv : s.vm = U.vm) (h : ∀ w ∈ zNW, va_Nw w s) : ∀ w ∈ zNW, va_Nw w U := by
  intro w hw
  have h1 := (List.mem_filter.mp hw).2
  have h2 := h w hw
  refine va_Nw.same ?_ hv h2
  cases w <;> first | rfl | (simp [zisN] at h1)
def zC0 : String := "HummingSet$Answers"
def zT0 : u_T := fun k => match k with
  | 0 => ("HummingSet$Answers", "kinds", "[I", true)
  | 1 => ("HummingSet$Answers", "ofs", "[I", true)
  | 2 => ("HummingSet$Answers", "minutes", "[I", true)
  | 3 => ("HummingSet$Answers", "replies", "[I", true)
  | _ => ("HummingSet$Answers", "count", "I", false)
def zF0 : Nat → FieldType := fun k => match k with
  | 0 => .array .int
  | 1 => .array .int
  | 2 => .array .int
  | 3 => .array .int
  | _ => .int
def zY0 : Nat → Nat := fun k => match k with
  | 0 => 2
  | 1 => 2
  | 2 => 2
  | 3 => 2
  | _ => 0
theorem zn0 : ∀ a, a < 5 → ∀ b, b < 5 → a ≠ b → (zT0 a).2.1 ≠ (zT0 b).2.1 := by decide +kernel
theorem zf0 : ∀ k, k < 5 → parseFieldDescriptor (zT0 k).2.2.1 = some (zF0 k) := by decide +kernel
theorem zl0 : ∀ w ∈ u_ws zC0 zT0 5, w ∈ zWS := by
  intro w hw
  obtain ⟨k, hk, rfl⟩ := List.mem_map.mp hw
  have hk := List.mem_range.mp hk
  match k, hk with
  | 0, _ => exact zmW 88 (by decide +kernel) rfl
  | 1, _ => exact zmW 90 (by decide +kernel) rfl
  | 2, _ => exact zmW 92 (by decide +kernel) rfl
  | 3, _ => exact zmW 94 (by decide +kernel) rfl
  | 4, _ => exact zmW 96 (by decide +kernel) rfl
  | n + 5, h => exact absurd h (by omega)
def zC1 : String := "HummingSet$Bench"
def zT1 : u_T := fun k => match k with
  | 0 => ("HummingSet$Bench", "ins", "[[I", true)
  | _ => ("HummingSet$Bench", "ends", "[I", true)
def zF1 : Nat → FieldType := fun k => match k with
  | 0 => .array (.array .int)
  | _ => .array .int
def zY1 : Nat → Nat := fun k => match k with
  | 0 => 2
  | _ => 2
theorem zn1 : ∀ a, a < 2 → ∀ b, b < 2 → a ≠ b → (zT1 a).2.1 ≠ (zT1 b).2.1 := by decide +kernel
theorem zf1 : ∀ k, k < 2 → parseFieldDescriptor (zT1 k).2.2.1 = some (zF1 k) := by decide +kernel
theorem zl1 : ∀ w ∈ u_ws zC1 zT1 2, w ∈ zWS := by
  intro w hw
  obtain ⟨k, hk, rfl⟩ := List.mem_map.mp hw
  have hk := List.mem_range.mp hk
  match k, hk with
  | 0, _ => exact zmW 66 (by decide +kernel) rfl
  | 1, _ => exact zmW 68 (by decide +kernel) rfl
  | n + 2, h => exact absurd h (by omega)
def zC2 : String := "HummingSet$Cases"
def zT2 : u_T := fun k => match k with
  | 0 => ("HummingSet$Cases", "states", "[I", true)
  | 1 => ("HummingSet$Cases", "weights", "[J", true)
  | 2 => ("HummingSet$Cases", "count", "I", false)
  | _ => ("HummingSet$Cases", "total", "J", false)
def zF2 : Nat → FieldType := fun k => match k with
  | 0 => .array .int
  | 1 => .array .long
  | 2 => .int
  | _ => .long
def zY2 : Nat → Nat := fun k => match k with
  | 0 => 2
  | 1 => 2
  | 2 => 0
  | _ => 1
theorem zn2 : ∀ a, a < 4 → ∀ b, b < 4 → a ≠ b → (zT2 a).2.1 ≠ (zT2 b).2.1 := by decide +kernel
theorem zf2 : ∀ k, k < 4 → parseFieldDescriptor (zT2 k).2.2.1 = some (zF2 k) := by decide +kernel
theorem zl2 : ∀ w ∈ u_ws zC2 zT2 4, w ∈ zWS := by
  intro w hw
  obtain ⟨k, hk, rfl⟩ := List.mem_map.mp hw
  have hk := List.mem_range.mp hk
  match k, hk with
  | 0, _ => exact zmW 118 (by decide +kernel) rfl
  | 1, _ => exact zmW 120 (by decide +kernel) rfl
  | 2, _ => exact zmW 122 (by decide +kernel) rfl
  | 3, _ => exact zmW 124 (by decide +kernel) rfl
  | n + 4, h => exact absurd h (by omega)
def zC3 : String := "HummingSet$Part"
def zT3 : u_T := fun k => match k with
  | 0 => ("HummingSet$Part", "lets", "[I", true)
  | 1 => ("HummingSet$Part", "stage", "I", false)
  | 2 => ("HummingSet$Part", "kind", "I", false)
  | 3 => ("HummingSet$Part", "age", "I", false)
  | 4 => ("HummingSet$Part", "trouble", "I", false)
  | 5 => ("HummingSet$Part", "warm", "I", false)
  | 6 => ("HummingSet$Part", "cost", "I", false)
  | 7 => ("HummingSet$Part", "volts", "I", false)
  | _ => ("HummingSet$Part", "loss", "I", false)
def zF3 : Nat → FieldType := fun k => match k with
  | 0 => .array .int
  | 1 => .int
  | 2 => .int
  | 3 => .int
  | 4 => .int
  | 5 => .int
  | 6 => .int
  | 7 => .int
  | _ => .int
def zY3 : Nat → Nat := fun k => match k with
  | 0 => 2
  | 1 => 0
  | 2 => 0
  | 3 => 0
  | 4 => 0
  | 5 => 0
  | 6 => 0
  | 7 => 0
  | _ => 0
theorem zn3 : ∀ a, a < 9 → ∀ b, b < 9 → a ≠ b → (zT3 a).2.1 ≠ (zT3 b).2.1 := by decide +kernel
theorem zf3 : ∀ k, k < 9 → parseFieldDescriptor (zT3 k).2.2.1 = some (zF3 k) := by decide +kernel
theorem zl3 : ∀ w ∈ u_ws zC3 zT3 9, w ∈ zWS := by
  intro w hw
  obtain ⟨k, hk, rfl⟩ := List.mem_map.mp hw
  have hk := List.mem_range.mp hk
  match k, hk with
  | 0, _ => exact zmW 230 (by decide +kernel) rfl
  | 1, _ => exact zmW 232 (by decide +kernel) rfl
  | 2, _ => exact zmW 234 (by decide +kernel) rfl
  | 3, _ => exact zmW 236 (by decide +kernel) rfl
  | 4, _ => exact zmW 238 (by decide +kernel) rfl
  | 5, _ => exact zmW 240 (by decide +kernel) rfl
  | 6, _ => exact zmW 242 (by decide +kernel) rfl
  | 7, _ => exact zmW 244 (by decide +kernel) rfl
  | 8, _ => exact zmW 246 (by decide +kernel) rfl
  | n + 9, h => exact absurd h (by omega)
def zC4 : String := "HummingSet$Plan"
def zT4 : u_T := fun k => match k with
  | 0 => ("HummingSet$Plan", "quiet", "[Z", true)
  | 1 => ("HummingSet$Plan", "sums", "[J", true)
  | _ => ("HummingSet$Plan", "firstPart", "I", false)
def zF4 : Nat → FieldType := fun k => match k with
  | 0 => .array .boolean
  | 1 => .array .long
  | _ => .int
def zY4 : Nat → Nat := fun k => match k with
  | 0 => 2
  | 1 => 2
  | _ => 0
theorem zn4 : ∀ a, a < 3 → ∀ b, b < 3 → a ≠ b → (zT4 a).2.1 ≠ (zT4 b).2.1 := by decide +kernel
theorem zf4 : ∀ k, k < 3 → parseFieldDescriptor (zT4 k).2.2.1 = some (zF4 k) := by decide +kernel
theorem zl4 : ∀ w ∈ u_ws zC4 zT4 3, w ∈ zWS := by
  intro w hw
  obtain ⟨k, hk, rfl⟩ := List.mem_map.mp hw
  have hk := List.mem_range.mp hk
  match k, hk with
  | 0, _ => exact zmW 164 (by decide +kernel) rfl
  | 1, _ => exact zmW 166 (by decide +kernel) rfl
  | 2, _ => exact zmW 168 (by decide +kernel) rfl
  | n + 3, h => exact absurd h (by omega)
def zC5 : String := "HummingSet$Reader"
def zT5 : u_T := fun k => match k with
  | 0 => ("HummingSet$Reader", "numbers", "[I", true)
  | _ => ("HummingSet$Reader", "place", "I", false)
def zF5 : Nat → FieldType := fun k => match k with
  | 0 => .array .int
  | _ => .int
def zY5 : Nat → Nat := fun k => match k with
  | 0 => 2
  | _ => 0
theorem zn5 : ∀ a, a < 2 → ∀ b, b < 2 → a ≠ b → (zT5 a).2.1 ≠ (zT5 b).2.1 := by decide +kernel
theorem zf5 : ∀ k, k < 2 → parseFieldDescriptor (zT5 k).2.2.1 = some (zF5 k) := by decide +kernel
theorem zl5 : ∀ w ∈ u_ws zC5 zT5 2, w ∈ zWS := by
  intro w hw
  obtain ⟨k, hk, rfl⟩ := List.mem_map.mp hw
  have hk := List.mem_range.mp hk
  match k, hk with
  | 0, _ => exact zmW 48 (by decide +kernel) rfl
  | 1, _ => exact zmW 50 (by decide +kernel) rfl
  | n + 2, h => exact absurd h (by omega)
def zC6 : String := "HummingSet$Search"
def zT6 : u_T := fun k => match k with
  | 0 => ("HummingSet$Search", "byReply", "[J", true)
  | 1 => ("HummingSet$Search", "kind", "I", false)
  | 2 => ("HummingSet$Search", "of", "I", false)
  | 3 => ("HummingSet$Search", "weight", "J", false)
  | _ => ("HummingSet$Search", "danger", "I", false)
def zF6 : Nat → FieldType := fun k => match k with
  | 0 => .array .long
  | 1 => .int
  | 2 => .int
  | 3 => .long
  | _ => .int
def zY6 : Nat → Nat := fun k => match k with
  | 0 => 2
  | 1 => 0
  | 2 => 0
  | 3 => 1
  | _ => 0
theorem zn6 : ∀ a, a < 5 → ∀ b, b < 5 → a ≠ b → (zT6 a).2.1 ≠ (zT6 b).2.1 := by decide +kernel
theorem zf6 : ∀ k, k < 5 → parseFieldDescriptor (zT6 k).2.2.1 = some (zF6 k) := by decide +kernel
theorem zl6 : ∀ w ∈ u_ws zC6 zT6 5, w ∈ zWS := by
  intro w hw
  obtain ⟨k, hk, rfl⟩ := List.mem_map.mp hw
  have hk := List.mem_range.mp hk
  match k, hk with
  | 0, _ => exact zmW 142 (by decide +kernel) rfl
  | 1, _ => exact zmW 144 (by decide +kernel) rfl
  | 2, _ => exact zmW 146 (by decide +kernel) rfl
  | 3, _ => exact zmW 148 (by decide +kernel) rfl
  | 4, _ => exact zmW 150 (by decide +kernel) rfl
  | n + 5, h => exact absurd h (by omega)
def zC7 : String := "HummingSet$Stage"
def zT7 : u_T := fun k => match k with
  | 0 => ("HummingSet$Stage", "mains", "[I", true)
  | 1 => ("HummingSet$Stage", "gain", "I", false)
  | _ => ("HummingSet$Stage", "bears", "I", false)
def zF7 : Nat → FieldType := fun k => match k with
  | 0 => .array .int
  | 1 => .int
  | _ => .int
def zY7 : Nat → Nat := fun k => match k with
  | 0 => 2
  | 1 => 0
  | _ => 0
theorem zn7 : ∀ a, a < 3 → ∀ b, b < 3 → a ≠ b → (zT7 a).2.1 ≠ (zT7 b).2.1 := by decide +kernel
theorem zf7 : ∀ k, k < 3 → parseFieldDescriptor (zT7 k).2.2.1 = some (zF7 k) := by decide +kernel
theorem zl7 : ∀ w ∈ u_ws zC7 zT7 3, w ∈ zWS := by
  intro w hw
  obtain ⟨k, hk, rfl⟩ := List.mem_map.mp hw
  have hk := List.mem_range.mp hk
  match k, hk with
  | 0, _ => exact zmW 195 (by decide +kernel) rfl
  | 1, _ => exact zmW 197 (by decide +kernel) rfl
  | 2, _ => exact zmW 199 (by decide +kernel) rfl
  | n + 3, h => exact absurd h (by omega)
def zC8 : String := "HummingSet$Text"
def zT8 : u_T := fun k => match k with
  | 0 => ("HummingSet$Text", "bytes", "[B", true)
  | _ => ("HummingSet$Text", "length", "I", false)
def zF8 : Nat → FieldType := fun k => match k with
  | 0 => .array .byte
  | _ => .int
def zY8 : Nat → Nat := fun k => match k with
  | 0 => 2
  | _ => 0
theorem zn8 : ∀ a, a < 2 → ∀ b, b < 2 → a ≠ b → (zT8 a).2.1 ≠ (zT8 b).2.1 := by decide +kernel
theorem zf8 : ∀ k, k < 2 → parseFieldDescriptor (zT8 k).2.2.1 = some (zF8 k) := by decide +kernel
theorem zl8 : ∀ w ∈ u_ws zC8 zT8 2, w ∈ zWS := by
  intro w hw
  obtain ⟨k, hk, rfl⟩ := List.mem_map.mp hw
  have hk := List.mem_range.mp hk
  match k, hk with
  | 0, _ => exact zmW 34 (by decide +kernel) rfl
  | 1, _ => exact zmW 36 (by decide +kernel) rfl
  | n + 2, h => exact absurd h (by omega)
def zC9 : String := "HummingSet$Way"
def zT9 : u_T := fun k => match k with
  | 0 => ("HummingSet$Way", "stage", "I", false)
  | 1 => ("HummingSet$Way", "tone", "I", false)
  | _ => ("HummingSet$Way", "hundredths", "I", false)
def zF9 : Nat → FieldType := fun k => match k with
  | 0 => .int
  | 1 => .int
  | _ => .int
def zY9 : Nat → Nat := fun k => match k with
  | 0 => 0
  | 1 => 0
  | _ => 0
theorem zn9 : ∀ a, a < 3 → ∀ b, b < 3 → a ≠ b → (zT9 a).2.1 ≠ (zT9 b).2.1 := by decide +kernel
theorem zf9 : ∀ k, k < 3 → parseFieldDescriptor (zT9 k).2.2.1 = some (zF9 k) := by decide +kernel
theorem zl9 : ∀ w ∈ u_ws zC9 zT9 3, w ∈ zWS := by
  intro w hw
  obtain ⟨k, hk, rfl⟩ := List.mem_map.mp hw
  have hk := List.mem_range.mp hk
  match k, hk with
  | 0, _ => exact zmW 257 (by decide +kernel) rfl
  | 1, _ => exact zmW 259 (by decide +kernel) rfl
  | 2, _ => exact zmW 261 (by decide +kernel) rfl
  | n + 3, h => exact absurd h (by omega)
def zC10 : String := "HummingSet$Wireless"
def zT10 : u_T := fun k => match k with
  | 0 => ("HummingSet$Wireless", "stages", "[LHummingSet$Stage;", true)
  | 1 => ("HummingSet$Wireless", "parts", "[LHummingSet$Part;", true)
  | 2 => ("HummingSet$Wireless", "ways", "[LHummingSet$Way;", true)
  | 3 => ("HummingSet$Wireless", "ears", "[I", true)
  | 4 => ("HummingSet$Wireless", "yearly", "[I", true)
  | 5 => ("HummingSet$Wireless", "stageCount", "I", false)
  | 6 => ("HummingSet$Wireless", "partCount", "I", false)
  | 7 => ("HummingSet$Wireless", "wayCount", "I", false)
  | 8 => ("HummingSet$Wireless", "letCount", "I", false)
  | _ => ("HummingSet$Wireless", "mainsCount", "I", false)
def zF10 : Nat → FieldType := fun k => match k with
  | 0 => .array (.object "HummingSet$Stage")
  | 1 => .array (.object "HummingSet$Part")
  | 2 => .array (.object "HummingSet$Way")
  | 3 => .array .int
  | 4 => .array .int
  | 5 => .int
  | 6 => .int
  | 7 => .int
  | 8 => .int
  | _ => .int
def zY10 : Nat → Nat := fun k => match k with
  | 0 => 2
  | 1 => 2
  | 2 => 2
  | 3 => 2
  | 4 => 2
  | 5 => 0
  | 6 => 0
  | 7 => 0
  | 8 => 0
  | _ => 0
theorem zn10 : ∀ a, a < 10 → ∀ b, b < 10 → a ≠ b → (zT10 a).2.1 ≠ (zT10 b).2.1 := by decide +kernel
theorem zf10 : ∀ k, k < 10 → parseFieldDescriptor (zT10 k).2.2.1 = some (zF10 k) := by decide +kernel
theorem zl10 : ∀ w ∈ u_ws zC10 zT10 10, w ∈ zWS := by
  intro w hw
  obtain ⟨k, hk, rfl⟩ := List.mem_map.mp hw
  have hk := List.mem_range.mp hk
  match k, hk with
  | 0, _ => exact zmW 288 (by decide +kernel) rfl
  | 1, _ => exact zmW 290 (by decide +kernel) rfl
  | 2, _ => exact zmW 292 (by decide +kernel) rfl
  | 3, _ => exact zmW 294 (by decide +kernel) rfl
  | 4, _ => exact zmW 296 (by decide +kernel) rfl
  | 5, _ => exact zmW 298 (by decide +kernel) rfl
  | 6, _ => exact zmW 300 (by decide +kernel) rfl
  | 7, _ => exact zmW 302 (by decide +kernel) rfl
  | 8, _ => exact zmW 304 (by decide +kernel) rfl
  | 9, _ => exact zmW 306 (by decide +kernel) rfl
  | n + 10, h => exact absurd h (by omega)
def zC11 : String := "HummingSet"
def zT11 : u_T := fun k => match k with
  | 0 => ("HummingSet", "text", "LHummingSet$Text;", true)
  | 1 => ("HummingSet", "reader", "LHummingSet$Reader;", true)
  | 2 => ("HummingSet", "bench", "LHummingSet$Bench;", true)
  | 3 => ("HummingSet", "answers", "LHummingSet$Answers;", true)
  | 4 => ("HummingSet", "firstKept", "LHummingSet$Answers;", true)
  | 5 => ("HummingSet", "secondKept", "LHummingSet$Answers;", true)
  | 6 => ("HummingSet", "cases", "LHummingSet$Cases;", true)
  | 7 => ("HummingSet", "search", "LHummingSet$Search;", true)
  | 8 => ("HummingSet", "plan", "LHummingSet$Plan;", true)
  | 9 => ("HummingSet", "laid", "LHummingSet$Wireless;", false)
  | 10 => ("HummingSet", "spare", "LHummingSet$Wireless;", false)
  | _ => ("HummingSet", "kept", "I", false)
def zF11 : Nat → FieldType := fun k => match k with
  | 0 => .object "HummingSet$Text"
  | 1 => .object "HummingSet$Reader"
  | 2 => .object "HummingSet$Bench"
  | 3 => .object "HummingSet$Answers"
  | 4 => .object "HummingSet$Answers"
  | 5 => .object "HummingSet$Answers"
  | 6 => .object "HummingSet$Cases"
  | 7 => .object "HummingSet$Search"
  | 8 => .object "HummingSet$Plan"
  | 9 => .object "HummingSet$Wireless"
  | 10 => .object "HummingSet$Wireless"
  | _ => .int
def zY11 : Nat → Nat := fun k => match k with
  | 0 => 2
  | 1 => 2
  | 2 => 2
  | 3 => 2
  | 4 => 2
  | 5 => 2
  | 6 => 2
  | 7 => 2
  | 8 => 2
  | 9 => 2
  | 10 => 2
  | _ => 0
theorem zn11 : ∀ a, a < 12 → ∀ b, b < 12 → a ≠ b → (zT11 a).2.1 ≠ (zT11 b).2.1 := by decide +kernel
theorem zf11 : ∀ k, k < 12 → parseFieldDescriptor (zT11 k).2.2.1 = some (zF11 k) := by decide +kernel
theorem zl11 : ∀ w ∈ u_ws zC11 zT11 12, w ∈ zWS := by
  intro w hw
  obtain ⟨k, hk, rfl⟩ := List.mem_map.mp hw
  have hk := List.mem_range.mp hk
  match k, hk with
  | 0, _ => exact zmW 416 (by decide +kernel) rfl
  | 1, _ => exact zmW 418 (by decide +kernel) rfl
  | 2, _ => exact zmW 420 (by decide +kernel) rfl
  | 3, _ => exact zmW 422 (by decide +kernel) rfl
  | 4, _ => exact zmW 424 (by decide +kernel) rfl
  | 5, _ => exact zmW 426 (by decide +kernel) rfl
  | 6, _ => exact zmW 428 (by decide +kernel) rfl
  | 7, _ => exact zmW 430 (by decide +kernel) rfl
  | 8, _ => exact zmW 432 (by decide +kernel) rfl
  | 9, _ => exact zmW 434 (by decide +kernel) rfl
  | 10, _ => exact zmW 436 (by decide +kernel) rfl
  | 11, _ => exact zmW 438 (by decide +kernel) rfl
  | n + 12, h => exact absurd h (by omega)
def zC12 : String := "HummingSetModel"
def zT12 : u_T := fun k => match k with
  | 0 => ("HummingSetModel", "length", "I", false)
  | 1 => ("HummingSetModel", "text", "[I", true)
  | 2 => ("HummingSetModel", "stageMany", "[I", true)
  | 3 => ("HummingSetModel", "gains", "[I", true)
  | 4 => ("HummingSetModel", "bears", "[I", true)
  | 5 => ("HummingSetModel", "partMany", "[I", true)
  | 6 => ("HummingSetModel", "stageOf", "[I", true)
  | 7 => ("HummingSetModel", "kinds", "[I", true)
  | 8 => ("HummingSetModel", "ages", "[I", true)
  | 9 => ("HummingSetModel", "chances", "[I", true)
  | 10 => ("HummingSetModel", "warms", "[I", true)
  | 11 => ("HummingSetModel", "costs", "[I", true)
  | 12 => ("HummingSetModel", "volts0", "[I", true)
  | 13 => ("HummingSetModel", "losses", "[I", true)
  | 14 => ("HummingSetModel", "letsMany", "[I", true)
  | 15 => ("HummingSetModel", "lets", "[I", true)
  | 16 => ("HummingSetModel", "comesMany", "[I", true)
  | 17 => ("HummingSetModel", "comes", "[I", true)
  | 18 => ("HummingSetModel", "wayMany", "[I", true)
  | 19 => ("HummingSetModel", "wayStage", "[I", true)
  | 20 => ("HummingSetModel", "wayTone", "[I", true)
  | 21 => ("HummingSetModel", "wayBack", "[I", true)
  | 22 => ("HummingSetModel", "ears", "[I", true)
  | 23 => ("HummingSetModel", "rates", "[I", true)
  | 24 => ("HummingSetModel", "answerMany", "[I", true)
  | 25 => ("HummingSetModel", "askKind", "[I", true)
  | 26 => ("HummingSetModel", "askOf", "[I", true)
  | 27 => ("HummingSetModel", "askAt", "[I", true)
  | 28 => ("HummingSetModel", "answers", "[I", true)
  | 29 => ("HummingSetModel", "keptMany", "I", false)
  | 30 => ("HummingSetModel", "place", "I", false)
  | 31 => ("HummingSetModel", "told", "[I", true)
  | 32 => ("HummingSetModel", "stateMany", "I", false)
  | 33 => ("HummingSetModel", "states", "[I", true)
  | 34 => ("HummingSetModel", "weights", "[J", true)
  | 35 => ("HummingSetModel", "byAnswer", "[J", true)
  | 36 => ("HummingSetModel", "least", "[J", true)
  | _ => ("HummingSetModel", "nexts", "[I", true)
def zF12 : Nat → FieldType := fun k => match k with
  | 0 => .int
  | 1 => .array .int
  | 2 => .array .int
  | 3 => .array .int
  | 4 => .array .int
  | 5 => .array .int
  | 6 => .array .int
  | 7 => .array .int
  | 8 => .array .int
  | 9 => .array .int
  | 10 => .array .int
  | 11 => .array .int
  | 12 => .array .int
  | 13 => .array .int
  | 14 => .array .int
  | 15 => .array .int
  | 16 => .array .int
  | 17 => .array .int
  | 18 => .array .int
  | 19 => .array .int
  | 20 => .array .int
  | 21 => .array .int
  | 22 => .array .int
  | 23 => .array .int
  | 24 => .array .int
  | 25 => .array .int
  | 26 => .array .int
  | 27 => .array .int
  | 28 => .array .int
  | 29 => .int
  | 30 => .int
  | 31 => .array .int
  | 32 => .int
  | 33 => .array .int
  | 34 => .array .long
  | 35 => .array .long
  | 36 => .array .long
  | _ => .array .int
def zY12 : Nat → Nat := fun k => match k with
  | 0 => 0
  | 1 => 2
  | 2 => 2
  | 3 => 2
  | 4 => 2
  | 5 => 2
  | 6 => 2
  | 7 => 2
  | 8 => 2
  | 9 => 2
  | 10 => 2
  | 11 => 2
  | 12 => 2
  | 13 => 2
  | 14 => 2
  | 15 => 2
  | 16 => 2
  | 17 => 2
  | 18 => 2
  | 19 => 2
  | 20 => 2
  | 21 => 2
  | 22 => 2
  | 23 => 2
  | 24 => 2
  | 25 => 2
  | 26 => 2
  | 27 => 2
  | 28 => 2
  | 29 => 0
  | 30 => 0
  | 31 => 2
  | 32 => 0
  | 33 => 2
  | 34 => 2
  | 35 => 2
  | 36 => 2
  | _ => 2
theorem zn12 : ∀ a, a < 38 → ∀ b, b < 38 → a ≠ b → (zT12 a).2.1 ≠ (zT12 b).2.1 := by decide +kernel
theorem zf12 : ∀ k, k < 38 → parseFieldDescriptor (zT12 k).2.2.1 = some (zF12 k) := by decide +kernel
theorem zl12 : ∀ w ∈ u_ws zC12 zT12 38, w ∈ zWS := by
  intro w hw
  obtain ⟨k, hk, rfl⟩ := List.mem_map.mp hw
  have hk := List.mem_range.mp hk
  match k, hk with
  | 0, _ => exact zmW 813 (by decide +kernel) rfl
  | 1, _ => exact zmW 815 (by decide +kernel) rfl
  | 2, _ => exact zmW 817 (by decide +kernel) rfl
  | 3, _ => exact zmW 819 (by decide +kernel) rfl
  | 4, _ => exact zmW 821 (by decide +kernel) rfl
  | 5, _ => exact zmW 823 (by decide +kernel) rfl
  | 6, _ => exact zmW 825 (by decide +kernel) rfl
  | 7, _ => exact zmW 827 (by decide +kernel) rfl
  | 8, _ => exact zmW 829 (by decide +kernel) rfl
  | 9, _ => exact zmW 831 (by decide +kernel) rfl
  | 10, _ => exact zmW 833 (by decide +kernel) rfl
  | 11, _ => exact zmW 835 (by decide +kernel) rfl
  | 12, _ => exact zmW 837 (by decide +kernel) rfl
  | 13, _ => exact zmW 839 (by decide +kernel) rfl
  | 14, _ => exact zmW 841 (by decide +kernel) rfl
  | 15, _ => exact zmW 843 (by decide +kernel) rfl
  | 16, _ => exact zmW 845 (by decide +kernel) rfl
  | 17, _ => exact zmW 847 (by decide +kernel) rfl
  | 18, _ => exact zmW 849 (by decide +kernel) rfl
  | 19, _ => exact zmW 851 (by decide +kernel) rfl
  | 20, _ => exact zmW 853 (by decide +kernel) rfl
  | 21, _ => exact zmW 855 (by decide +kernel) rfl
  | 22, _ => exact zmW 857 (by decide +kernel) rfl
  | 23, _ => exact zmW 859 (by decide +kernel) rfl
  | 24, _ => exact zmW 861 (by decide +kernel) rfl
  | 25, _ => exact zmW 863 (by decide +kernel) rfl
  | 26, _ => exact zmW 865 (by decide +kernel) rfl
  | 27, _ => exact zmW 867 (by decide +kernel) rfl
  | 28, _ => exact zmW 869 (by decide +kernel) rfl
  | 29, _ => exact zmW 871 (by decide +kernel) rfl
  | 30, _ => exact zmW 873 (by decide +kernel) rfl
  | 31, _ => exact zmW 875 (by decide +kernel) rfl
  | 32, _ => exact zmW 877 (by decide +kernel) rfl
  | 33, _ => exact zmW 879 (by decide +kernel) rfl
  | 34, _ => exact zmW 881 (by decide +kernel) rfl
  | 35, _ => exact zmW 883 (by decide +kernel) rfl
  | 36, _ => exact zmW 885 (by decide +kernel) rfl
  | 37, _ => exact zmW 887 (by decide +kernel) rfl
  | n + 38, h => exact absurd h (by omega)
abbrev zcls : List vw_C := [(zC0, zT0, 5), (zC1, zT1, 2), (zC2, zT2, 4), (zC3, zT3, 9), (zC4, zT4, 3), (zC5, zT5, 2), (zC6, zT6, 5), (zC7, zT7, 3), (zC8, zT8, 2), (zC9, zT9, 3), (zC10, zT10, 10), (zC11, zT11, 12), (zC12, zT12, 38)]
def zN : Nat → Nat := fun k => match k with
  | 0 => 5
  | 1 => 2
  | 2 => 4
  | 3 => 9
  | 4 => 3
  | 5 => 2
  | 6 => 5
  | 7 => 3
  | 8 => 2
  | 9 => 3
  | 10 => 10
  | 11 => 12
  | _ => 38
def zty : Nat → Nat → Nat := fun k => match k with
  | 0 => zY0
  | 1 => zY1
  | 2 => zY2
  | 3 => zY3
  | 4 => zY4
  | 5 => zY5
  | 6 => zY6
  | 7 => zY7
  | 8 => zY8
  | 9 => zY9
  | 10 => zY10
  | 11 => zY11
  | _ => zY12
/-- what a class's rows give -/
def zOK (ci : Nat) (C : String) (T : u_T) (F : Nat → FieldType) : Prop := ci < 13 ∧ zcls[ci]? = some (C, T, zN ci) ∧ (∀ w ∈ u_ws C T (zN ci), w ∈ zWS) ∧ (∀ a, a < zN ci → ∀ b, b < zN ci → a ≠ b → (T a).2.1 ≠ (T b).2.1) ∧ ∀ k, k < zN ci → parseFieldDescriptor (T k).2.2.1 = some (F k)
theorem zo0 : zOK 0 zC0 zT0 zF0 := ⟨by decide, rfl, zl0, zn0, zf0⟩
theorem zo1 : zOK 1 zC1 zT1 zF1 := ⟨by decide, rfl, zl1, zn1, zf1⟩
theorem zo2 : zOK 2 zC2 zT2 zF2 := ⟨by decide, rfl, zl2, zn2, zf2⟩
theorem zo3 : zOK 3 zC3 zT3 zF3 := ⟨by decide, rfl, zl3, zn3, zf3⟩
theorem zo4 : zOK 4 zC4 zT4 zF4 := ⟨by decide, rfl, zl4, zn4, zf4⟩
theorem zo5 : zOK 5 zC5 zT5 zF5 := ⟨by decide, rfl, zl5, zn5, zf5⟩
theorem zo6 : zOK 6 zC6 zT6 zF6 := ⟨by decide, rfl, zl6, zn6, zf6⟩
theorem zo7 : zOK 7 zC7 zT7 zF7 := ⟨by decide, rfl, zl7, zn7, zf7⟩
theorem zo8 : zOK 8 zC8 zT8 zF8 := ⟨by decide, rfl, zl8, zn8, zf8⟩
theorem zo9 : zOK 9 zC9 zT9 zF9 := ⟨by decide, rfl, zl9, zn9, zf9⟩
theorem zo10 : zOK 10 zC10 zT10 zF10 := ⟨by decide, rfl, zl10, zn10, zf10⟩
theorem zo11 : zOK 11 zC11 zT11 zF11 := ⟨by decide, rfl, zl11, zn11, zf11⟩
theorem zo12 : zOK 12 zC12 zT12 zF12 := ⟨by decide, rfl, zl12, zn12, zf12⟩
end
