section
-- ===== PART A: goes FIRST, ahead of the names: the tables' words, and 'selects' of the private methods out of them =====
/-- a private method of a class that the tables say can be made, by its rows of tables_1 -/
def lw_okq (q : MethodName × Nat) : Prop := (q.1.cls ≠ "java/lang/invoke/MethodHandle" ∧ q.1.cls ≠ "java/lang/invoke/VarHandle") ∧ Cond.instantiable q.1.cls q.2 ∈ tables_1 ∧ Cond.privateMethod q.1 ∈ tables_1 ∧ Cond.instanceMethod q.1 ∈ tables_1
theorem lw_p0 : lw_okq (⟨"HummingSet$Wireless", "clear", "()V"⟩, 10) := ⟨⟨by decide +kernel, by decide +kernel⟩, List.mem_of_getElem? (i := 173) (by decide +kernel), List.mem_of_getElem? (i := 265) (by decide +kernel), List.mem_of_getElem? (i := 266) (by decide +kernel)⟩
theorem lw_p1 : lw_okq (⟨"HummingSet$Wireless", "takeStage", "(II)Z"⟩, 10) := ⟨⟨by decide +kernel, by decide +kernel⟩, List.mem_of_getElem? (i := 173) (by decide +kernel), List.mem_of_getElem? (i := 310) (by decide +kernel), List.mem_of_getElem? (i := 311) (by decide +kernel)⟩
theorem lw_p2 : lw_okq (⟨"HummingSet$Wireless", "takePart", "(IIIII)Z"⟩, 10) := ⟨⟨by decide +kernel, by decide +kernel⟩, List.mem_of_getElem? (i := 173) (by decide +kernel), List.mem_of_getElem? (i := 317) (by decide +kernel), List.mem_of_getElem? (i := 318) (by decide +kernel)⟩
theorem lw_p3 : lw_okq (⟨"HummingSet$Wireless", "hasStage", "(I)Z"⟩, 10) := ⟨⟨by decide +kernel, by decide +kernel⟩, List.mem_of_getElem? (i := 173) (by decide +kernel), List.mem_of_getElem? (i := 321) (by decide +kernel), List.mem_of_getElem? (i := 322) (by decide +kernel)⟩
theorem lw_p4 : lw_okq (⟨"HummingSet$Wireless", "takeLet", "(III)Z"⟩, 10) := ⟨⟨by decide +kernel, by decide +kernel⟩, List.mem_of_getElem? (i := 173) (by decide +kernel), List.mem_of_getElem? (i := 325) (by decide +kernel), List.mem_of_getElem? (i := 326) (by decide +kernel)⟩
theorem lw_p5 : lw_okq (⟨"HummingSet$Wireless", "hasPart", "(I)Z"⟩, 10) := ⟨⟨by decide +kernel, by decide +kernel⟩, List.mem_of_getElem? (i := 173) (by decide +kernel), List.mem_of_getElem? (i := 329) (by decide +kernel), List.mem_of_getElem? (i := 330) (by decide +kernel)⟩
theorem lw_p6 : lw_okq (⟨"HummingSet$Plan", "learn", "(LHummingSet$Wireless;LHummingSet$Bench;)V"⟩, 3) := ⟨⟨by decide +kernel, by decide +kernel⟩, List.mem_of_getElem? (i := 154) (by decide +kernel), List.mem_of_getElem? (i := 337) (by decide +kernel), List.mem_of_getElem? (i := 338) (by decide +kernel)⟩
theorem lw_p7 : lw_okq (⟨"HummingSet$Wireless", "hasState", "(I)Z"⟩, 10) := ⟨⟨by decide +kernel, by decide +kernel⟩, List.mem_of_getElem? (i := 173) (by decide +kernel), List.mem_of_getElem? (i := 341) (by decide +kernel), List.mem_of_getElem? (i := 342) (by decide +kernel)⟩
theorem lw_p8 : lw_okq (⟨"HummingSet$Bench", "play", "(LHummingSet$Wireless;IIII)V"⟩, 2) := ⟨⟨by decide +kernel, by decide +kernel⟩, List.mem_of_getElem? (i := 55) (by decide +kernel), List.mem_of_getElem? (i := 351) (by decide +kernel), List.mem_of_getElem? (i := 352) (by decide +kernel)⟩
theorem lw_p9 : lw_okq (⟨"HummingSet$Bench", "comeIn", "(LHummingSet$Wireless;II)V"⟩, 2) := ⟨⟨by decide +kernel, by decide +kernel⟩, List.mem_of_getElem? (i := 55) (by decide +kernel), List.mem_of_getElem? (i := 355) (by decide +kernel), List.mem_of_getElem? (i := 356) (by decide +kernel)⟩
theorem lw_p10 : lw_okq (⟨"HummingSet$Bench", "tonesHeard", "(LHummingSet$Wireless;)I"⟩, 2) := ⟨⟨by decide +kernel, by decide +kernel⟩, List.mem_of_getElem? (i := 55) (by decide +kernel), List.mem_of_getElem? (i := 360) (by decide +kernel), List.mem_of_getElem? (i := 361) (by decide +kernel)⟩
theorem lw_p11 : lw_okq (⟨"HummingSet", "weighAnew", "()V"⟩, 12) := ⟨⟨by decide +kernel, by decide +kernel⟩, List.mem_of_getElem? (i := 17) (by decide +kernel), List.mem_of_getElem? (i := 367) (by decide +kernel), List.mem_of_getElem? (i := 368) (by decide +kernel)⟩
theorem lw_p12 : lw_okq (⟨"HummingSet$Cases", "fill", "(LHummingSet$Wireless;)V"⟩, 4) := ⟨⟨by decide +kernel, by decide +kernel⟩, List.mem_of_getElem? (i := 100) (by decide +kernel), List.mem_of_getElem? (i := 371) (by decide +kernel), List.mem_of_getElem? (i := 372) (by decide +kernel)⟩
theorem lw_p13 : lw_okq (⟨"HummingSet$Wireless", "weightOf", "(I)J"⟩, 10) := ⟨⟨by decide +kernel, by decide +kernel⟩, List.mem_of_getElem? (i := 173) (by decide +kernel), List.mem_of_getElem? (i := 377) (by decide +kernel), List.mem_of_getElem? (i := 378) (by decide +kernel)⟩
theorem lw_p14 : lw_okq (⟨"HummingSet$Cases", "add", "(IJ)V"⟩, 4) := ⟨⟨by decide +kernel, by decide +kernel⟩, List.mem_of_getElem? (i := 100) (by decide +kernel), List.mem_of_getElem? (i := 381) (by decide +kernel), List.mem_of_getElem? (i := 382) (by decide +kernel)⟩
theorem lw_p15 : lw_okq (⟨"HummingSet$Cases", "narrow", "(LHummingSet$Wireless;LHummingSet$Bench;LHummingSet$Answers;I)V"⟩, 4) := ⟨⟨by decide +kernel, by decide +kernel⟩, List.mem_of_getElem? (i := 100) (by decide +kernel), List.mem_of_getElem? (i := 385) (by decide +kernel), List.mem_of_getElem? (i := 386) (by decide +kernel)⟩
def lw_privs_1 : List (MethodName × Nat) := [(⟨"HummingSet$Wireless", "clear", "()V"⟩, 10), (⟨"HummingSet$Wireless", "takeStage", "(II)Z"⟩, 10), (⟨"HummingSet$Wireless", "takePart", "(IIIII)Z"⟩, 10), (⟨"HummingSet$Wireless", "hasStage", "(I)Z"⟩, 10), (⟨"HummingSet$Wireless", "takeLet", "(III)Z"⟩, 10), (⟨"HummingSet$Wireless", "hasPart", "(I)Z"⟩, 10), (⟨"HummingSet$Plan", "learn", "(LHummingSet$Wireless;LHummingSet$Bench;)V"⟩, 3), (⟨"HummingSet$Wireless", "hasState", "(I)Z"⟩, 10), (⟨"HummingSet$Bench", "play", "(LHummingSet$Wireless;IIII)V"⟩, 2), (⟨"HummingSet$Bench", "comeIn", "(LHummingSet$Wireless;II)V"⟩, 2), (⟨"HummingSet$Bench", "tonesHeard", "(LHummingSet$Wireless;)I"⟩, 2), (⟨"HummingSet", "weighAnew", "()V"⟩, 12), (⟨"HummingSet$Cases", "fill", "(LHummingSet$Wireless;)V"⟩, 4), (⟨"HummingSet$Wireless", "weightOf", "(I)J"⟩, 10), (⟨"HummingSet$Cases", "add", "(IJ)V"⟩, 4), (⟨"HummingSet$Cases", "narrow", "(LHummingSet$Wireless;LHummingSet$Bench;LHummingSet$Answers;I)V"⟩, 4)]
theorem lw_r1 : ∀ q ∈ lw_privs_1, lw_okq q := List.forall_mem_cons.mpr ⟨lw_p0, List.forall_mem_cons.mpr ⟨lw_p1, List.forall_mem_cons.mpr ⟨lw_p2, List.forall_mem_cons.mpr ⟨lw_p3, List.forall_mem_cons.mpr ⟨lw_p4, List.forall_mem_cons.mpr ⟨lw_p5, List.forall_mem_cons.mpr ⟨lw_p6, List.forall_mem_cons.mpr ⟨lw_p7, List.forall_mem_cons.mpr ⟨lw_p8, List.forall_mem_cons.mpr ⟨lw_p9, List.forall_mem_cons.mpr ⟨lw_p10, List.forall_mem_cons.mpr ⟨lw_p11, List.forall_mem_cons.mpr ⟨lw_p12, List.forall_mem_cons.mpr ⟨lw_p13, List.forall_mem_cons.mpr ⟨lw_p14, List.forall_mem_cons.mpr ⟨lw_p15, fun _ h => absurd h List.not_mem_nil⟩⟩⟩⟩⟩⟩⟩⟩⟩⟩⟩⟩⟩⟩⟩⟩
theorem lw_p16 : lw_okq (⟨"HummingSet$Bench", "reply", "(LHummingSet$Wireless;IIII)I"⟩, 2) := ⟨⟨by decide +kernel, by decide +kernel⟩, List.mem_of_getElem? (i := 55) (by decide +kernel), List.mem_of_getElem? (i := 389) (by decide +kernel), List.mem_of_getElem? (i := 390) (by decide +kernel)⟩
theorem lw_p17 : lw_okq (⟨"HummingSet$Text", "hasRoom", "(I)Z"⟩, 2) := ⟨⟨by decide +kernel, by decide +kernel⟩, List.mem_of_getElem? (i := 25) (by decide +kernel), List.mem_of_getElem? (i := 446) (by decide +kernel), List.mem_of_getElem? (i := 447) (by decide +kernel)⟩
theorem lw_p18 : lw_okq (⟨"HummingSet$Text", "append", "(IJ)V"⟩, 2) := ⟨⟨by decide +kernel, by decide +kernel⟩, List.mem_of_getElem? (i := 25) (by decide +kernel), List.mem_of_getElem? (i := 450) (by decide +kernel), List.mem_of_getElem? (i := 451) (by decide +kernel)⟩
theorem lw_p19 : lw_okq (⟨"HummingSet$Reader", "read", "(LHummingSet$Text;LHummingSet$Wireless;)I"⟩, 2) := ⟨⟨by decide +kernel, by decide +kernel⟩, List.mem_of_getElem? (i := 41) (by decide +kernel), List.mem_of_getElem? (i := 462) (by decide +kernel), List.mem_of_getElem? (i := 463) (by decide +kernel)⟩
theorem lw_p20 : lw_okq (⟨"HummingSet$Reader", "readItem", "(LHummingSet$Text;LHummingSet$Wireless;)Z"⟩, 2) := ⟨⟨by decide +kernel, by decide +kernel⟩, List.mem_of_getElem? (i := 41) (by decide +kernel), List.mem_of_getElem? (i := 467) (by decide +kernel), List.mem_of_getElem? (i := 468) (by decide +kernel)⟩
theorem lw_p21 : lw_okq (⟨"HummingSet$Text", "at", "(I)I"⟩, 2) := ⟨⟨by decide +kernel, by decide +kernel⟩, List.mem_of_getElem? (i := 25) (by decide +kernel), List.mem_of_getElem? (i := 471) (by decide +kernel), List.mem_of_getElem? (i := 472) (by decide +kernel)⟩
theorem lw_p22 : lw_okq (⟨"HummingSet$Reader", "readNumber", "(LHummingSet$Text;I)Z"⟩, 2) := ⟨⟨by decide +kernel, by decide +kernel⟩, List.mem_of_getElem? (i := 41) (by decide +kernel), List.mem_of_getElem? (i := 478) (by decide +kernel), List.mem_of_getElem? (i := 479) (by decide +kernel)⟩
theorem lw_p23 : lw_okq (⟨"HummingSet$Reader", "takeItem", "(ILHummingSet$Wireless;)Z"⟩, 2) := ⟨⟨by decide +kernel, by decide +kernel⟩, List.mem_of_getElem? (i := 41) (by decide +kernel), List.mem_of_getElem? (i := 483) (by decide +kernel), List.mem_of_getElem? (i := 484) (by decide +kernel)⟩
theorem lw_p24 : lw_okq (⟨"HummingSet$Wireless", "takeMains", "(III)Z"⟩, 10) := ⟨⟨by decide +kernel, by decide +kernel⟩, List.mem_of_getElem? (i := 173) (by decide +kernel), List.mem_of_getElem? (i := 490) (by decide +kernel), List.mem_of_getElem? (i := 491) (by decide +kernel)⟩
theorem lw_p25 : lw_okq (⟨"HummingSet$Wireless", "takeCost", "(II)Z"⟩, 10) := ⟨⟨by decide +kernel, by decide +kernel⟩, List.mem_of_getElem? (i := 173) (by decide +kernel), List.mem_of_getElem? (i := 494) (by decide +kernel), List.mem_of_getElem? (i := 495) (by decide +kernel)⟩
theorem lw_p26 : lw_okq (⟨"HummingSet$Wireless", "takeWay", "(III)Z"⟩, 10) := ⟨⟨by decide +kernel, by decide +kernel⟩, List.mem_of_getElem? (i := 173) (by decide +kernel), List.mem_of_getElem? (i := 498) (by decide +kernel), List.mem_of_getElem? (i := 499) (by decide +kernel)⟩
theorem lw_p27 : lw_okq (⟨"HummingSet$Wireless", "takeEar", "(II)Z"⟩, 10) := ⟨⟨by decide +kernel, by decide +kernel⟩, List.mem_of_getElem? (i := 173) (by decide +kernel), List.mem_of_getElem? (i := 502) (by decide +kernel), List.mem_of_getElem? (i := 503) (by decide +kernel)⟩
theorem lw_p28 : lw_okq (⟨"HummingSet$Wireless", "takeYearly", "(II)Z"⟩, 10) := ⟨⟨by decide +kernel, by decide +kernel⟩, List.mem_of_getElem? (i := 173) (by decide +kernel), List.mem_of_getElem? (i := 506) (by decide +kernel), List.mem_of_getElem? (i := 507) (by decide +kernel)⟩
theorem lw_p29 : lw_okq (⟨"HummingSet$Wireless", "takeVolts", "(III)Z"⟩, 10) := ⟨⟨by decide +kernel, by decide +kernel⟩, List.mem_of_getElem? (i := 173) (by decide +kernel), List.mem_of_getElem? (i := 510) (by decide +kernel), List.mem_of_getElem? (i := 511) (by decide +kernel)⟩
theorem lw_p30 : lw_okq (⟨"HummingSet$Bench", "loudness", "()I"⟩, 2) := ⟨⟨by decide +kernel, by decide +kernel⟩, List.mem_of_getElem? (i := 55) (by decide +kernel), List.mem_of_getElem? (i := 544) (by decide +kernel), List.mem_of_getElem? (i := 545) (by decide +kernel)⟩
theorem lw_p31 : lw_okq (⟨"HummingSet$Wireless", "hasAsk", "(II)Z"⟩, 10) := ⟨⟨by decide +kernel, by decide +kernel⟩, List.mem_of_getElem? (i := 173) (by decide +kernel), List.mem_of_getElem? (i := 552) (by decide +kernel), List.mem_of_getElem? (i := 553) (by decide +kernel)⟩
def lw_privs_2 : List (MethodName × Nat) := [(⟨"HummingSet$Bench", "reply", "(LHummingSet$Wireless;IIII)I"⟩, 2), (⟨"HummingSet$Text", "hasRoom", "(I)Z"⟩, 2), (⟨"HummingSet$Text", "append", "(IJ)V"⟩, 2), (⟨"HummingSet$Reader", "read", "(LHummingSet$Text;LHummingSet$Wireless;)I"⟩, 2), (⟨"HummingSet$Reader", "readItem", "(LHummingSet$Text;LHummingSet$Wireless;)Z"⟩, 2), (⟨"HummingSet$Text", "at", "(I)I"⟩, 2), (⟨"HummingSet$Reader", "readNumber", "(LHummingSet$Text;I)Z"⟩, 2), (⟨"HummingSet$Reader", "takeItem", "(ILHummingSet$Wireless;)Z"⟩, 2), (⟨"HummingSet$Wireless", "takeMains", "(III)Z"⟩, 10), (⟨"HummingSet$Wireless", "takeCost", "(II)Z"⟩, 10), (⟨"HummingSet$Wireless", "takeWay", "(III)Z"⟩, 10), (⟨"HummingSet$Wireless", "takeEar", "(II)Z"⟩, 10), (⟨"HummingSet$Wireless", "takeYearly", "(II)Z"⟩, 10), (⟨"HummingSet$Wireless", "takeVolts", "(III)Z"⟩, 10), (⟨"HummingSet$Bench", "loudness", "()I"⟩, 2), (⟨"HummingSet$Wireless", "hasAsk", "(II)Z"⟩, 10)]
theorem lw_r2 : ∀ q ∈ lw_privs_2, lw_okq q := List.forall_mem_cons.mpr ⟨lw_p16, List.forall_mem_cons.mpr ⟨lw_p17, List.forall_mem_cons.mpr ⟨lw_p18, List.forall_mem_cons.mpr ⟨lw_p19, List.forall_mem_cons.mpr ⟨lw_p20, List.forall_mem_cons.mpr ⟨lw_p21, List.forall_mem_cons.mpr ⟨lw_p22, List.forall_mem_cons.mpr ⟨lw_p23, List.forall_mem_cons.mpr ⟨lw_p24, List.forall_mem_cons.mpr ⟨lw_p25, List.forall_mem_cons.mpr ⟨lw_p26, List.forall_mem_cons.mpr ⟨lw_p27, List.forall_mem_cons.mpr ⟨lw_p28, List.forall_mem_cons.mpr ⟨lw_p29, List.forall_mem_cons.mpr ⟨lw_p30, List.forall_mem_cons.mpr ⟨lw_p31, fun _ h => absurd h List.not_mem_nil⟩⟩⟩⟩⟩⟩⟩⟩⟩⟩⟩⟩⟩⟩⟩⟩
theorem lw_p32 : lw_okq (⟨"HummingSet$Wireless", "asksOf", "(I)I"⟩, 10) := ⟨⟨by decide +kernel, by decide +kernel⟩, List.mem_of_getElem? (i := 173) (by decide +kernel), List.mem_of_getElem? (i := 556) (by decide +kernel), List.mem_of_getElem? (i := 557) (by decide +kernel)⟩
theorem lw_p33 : lw_okq (⟨"HummingSet$Wireless", "riskOf", "(II)I"⟩, 10) := ⟨⟨by decide +kernel, by decide +kernel⟩, List.mem_of_getElem? (i := 173) (by decide +kernel), List.mem_of_getElem? (i := 565) (by decide +kernel), List.mem_of_getElem? (i := 566) (by decide +kernel)⟩
theorem lw_p34 : lw_okq (⟨"HummingSet$Wireless", "someBearsTooMuch", "(I)Z"⟩, 10) := ⟨⟨by decide +kernel, by decide +kernel⟩, List.mem_of_getElem? (i := 173) (by decide +kernel), List.mem_of_getElem? (i := 569) (by decide +kernel), List.mem_of_getElem? (i := 570) (by decide +kernel)⟩
theorem lw_p35 : lw_okq (⟨"HummingSet$Wireless", "someHoldsMuch", "(I)Z"⟩, 10) := ⟨⟨by decide +kernel, by decide +kernel⟩, List.mem_of_getElem? (i := 173) (by decide +kernel), List.mem_of_getElem? (i := 573) (by decide +kernel), List.mem_of_getElem? (i := 574) (by decide +kernel)⟩
theorem lw_p36 : lw_okq (⟨"HummingSet$Part", "voltsAfter", "(I)I"⟩, 9) := ⟨⟨by decide +kernel, by decide +kernel⟩, List.mem_of_getElem? (i := 202) (by decide +kernel), List.mem_of_getElem? (i := 581) (by decide +kernel), List.mem_of_getElem? (i := 582) (by decide +kernel)⟩
theorem lw_p37 : lw_okq (⟨"HummingSet$Part", "voltsLess", "(I)I"⟩, 9) := ⟨⟨by decide +kernel, by decide +kernel⟩, List.mem_of_getElem? (i := 202) (by decide +kernel), List.mem_of_getElem? (i := 585) (by decide +kernel), List.mem_of_getElem? (i := 586) (by decide +kernel)⟩
theorem lw_p38 : lw_okq (⟨"HummingSet$Wireless", "minuteOfNoShock", "()I"⟩, 10) := ⟨⟨by decide +kernel, by decide +kernel⟩, List.mem_of_getElem? (i := 173) (by decide +kernel), List.mem_of_getElem? (i := 596) (by decide +kernel), List.mem_of_getElem? (i := 597) (by decide +kernel)⟩
theorem lw_p39 : lw_okq (⟨"HummingSet$Part", "minuteBelowShock", "()I"⟩, 9) := ⟨⟨by decide +kernel, by decide +kernel⟩, List.mem_of_getElem? (i := 202) (by decide +kernel), List.mem_of_getElem? (i := 600) (by decide +kernel), List.mem_of_getElem? (i := 601) (by decide +kernel)⟩
theorem lw_p40 : lw_okq (⟨"HummingSet$Answers", "add", "(IIII)V"⟩, 5) := ⟨⟨by decide +kernel, by decide +kernel⟩, List.mem_of_getElem? (i := 72) (by decide +kernel), List.mem_of_getElem? (i := 609) (by decide +kernel), List.mem_of_getElem? (i := 610) (by decide +kernel)⟩
theorem lw_p41 : lw_okq (⟨"HummingSet$Cases", "weightWith", "(I)J"⟩, 4) := ⟨⟨by decide +kernel, by decide +kernel⟩, List.mem_of_getElem? (i := 100) (by decide +kernel), List.mem_of_getElem? (i := 627) (by decide +kernel), List.mem_of_getElem? (i := 628) (by decide +kernel)⟩
theorem lw_p42 : lw_okq (⟨"HummingSet$Cases", "heaviest", "()I"⟩, 4) := ⟨⟨by decide +kernel, by decide +kernel⟩, List.mem_of_getElem? (i := 100) (by decide +kernel), List.mem_of_getElem? (i := 638) (by decide +kernel), List.mem_of_getElem? (i := 639) (by decide +kernel)⟩
theorem lw_p43 : lw_okq (⟨"HummingSet$Search", "find", "(LHummingSet$Wireless;LHummingSet$Bench;LHummingSet$Cases;I)V"⟩, 5) := ⟨⟨by decide +kernel, by decide +kernel⟩, List.mem_of_getElem? (i := 129) (by decide +kernel), List.mem_of_getElem? (i := 646) (by decide +kernel), List.mem_of_getElem? (i := 647) (by decide +kernel)⟩
theorem lw_p44 : lw_okq (⟨"HummingSet$Search", "worstOf", "(LHummingSet$Wireless;LHummingSet$Bench;LHummingSet$Cases;III)J"⟩, 5) := ⟨⟨by decide +kernel, by decide +kernel⟩, List.mem_of_getElem? (i := 129) (by decide +kernel), List.mem_of_getElem? (i := 651) (by decide +kernel), List.mem_of_getElem? (i := 652) (by decide +kernel)⟩
theorem lw_p45 : lw_okq (⟨"HummingSet$Search", "isBetter", "(IJI)Z"⟩, 5) := ⟨⟨by decide +kernel, by decide +kernel⟩, List.mem_of_getElem? (i := 129) (by decide +kernel), List.mem_of_getElem? (i := 661) (by decide +kernel), List.mem_of_getElem? (i := 662) (by decide +kernel)⟩
theorem lw_p46 : lw_okq (⟨"HummingSet$Plan", "cheapest", "(LHummingSet$Wireless;LHummingSet$Cases;I)I"⟩, 3) := ⟨⟨by decide +kernel, by decide +kernel⟩, List.mem_of_getElem? (i := 154) (by decide +kernel), List.mem_of_getElem? (i := 674) (by decide +kernel), List.mem_of_getElem? (i := 675) (by decide +kernel)⟩
theorem lw_p47 : lw_okq (⟨"HummingSet$Wireless", "costOf", "(I)I"⟩, 10) := ⟨⟨by decide +kernel, by decide +kernel⟩, List.mem_of_getElem? (i := 173) (by decide +kernel), List.mem_of_getElem? (i := 678) (by decide +kernel), List.mem_of_getElem? (i := 679) (by decide +kernel)⟩
def lw_privs_3 : List (MethodName × Nat) := [(⟨"HummingSet$Wireless", "asksOf", "(I)I"⟩, 10), (⟨"HummingSet$Wireless", "riskOf", "(II)I"⟩, 10), (⟨"HummingSet$Wireless", "someBearsTooMuch", "(I)Z"⟩, 10), (⟨"HummingSet$Wireless", "someHoldsMuch", "(I)Z"⟩, 10), (⟨"HummingSet$Part", "voltsAfter", "(I)I"⟩, 9), (⟨"HummingSet$Part", "voltsLess", "(I)I"⟩, 9), (⟨"HummingSet$Wireless", "minuteOfNoShock", "()I"⟩, 10), (⟨"HummingSet$Part", "minuteBelowShock", "()I"⟩, 9), (⟨"HummingSet$Answers", "add", "(IIII)V"⟩, 5), (⟨"HummingSet$Cases", "weightWith", "(I)J"⟩, 4), (⟨"HummingSet$Cases", "heaviest", "()I"⟩, 4), (⟨"HummingSet$Search", "find", "(LHummingSet$Wireless;LHummingSet$Bench;LHummingSet$Cases;I)V"⟩, 5), (⟨"HummingSet$Search", "worstOf", "(LHummingSet$Wireless;LHummingSet$Bench;LHummingSet$Cases;III)J"⟩, 5), (⟨"HummingSet$Search", "isBetter", "(IJI)Z"⟩, 5), (⟨"HummingSet$Plan", "cheapest", "(LHummingSet$Wireless;LHummingSet$Cases;I)I"⟩, 3), (⟨"HummingSet$Wireless", "costOf", "(I)I"⟩, 10)]
theorem lw_r3 : ∀ q ∈ lw_privs_3, lw_okq q := List.forall_mem_cons.mpr ⟨lw_p32, List.forall_mem_cons.mpr ⟨lw_p33, List.forall_mem_cons.mpr ⟨lw_p34, List.forall_mem_cons.mpr ⟨lw_p35, List.forall_mem_cons.mpr ⟨lw_p36, List.forall_mem_cons.mpr ⟨lw_p37, List.forall_mem_cons.mpr ⟨lw_p38, List.forall_mem_cons.mpr ⟨lw_p39, List.forall_mem_cons.mpr ⟨lw_p40, List.forall_mem_cons.mpr ⟨lw_p41, List.forall_mem_cons.mpr ⟨lw_p42, List.forall_mem_cons.mpr ⟨lw_p43, List.forall_mem_cons.mpr ⟨lw_p44, List.forall_mem_cons.mpr ⟨lw_p45, List.forall_mem_cons.mpr ⟨lw_p46, List.forall_mem_cons.mpr ⟨lw_p47, fun _ h => absurd h List.not_mem_nil⟩⟩⟩⟩⟩⟩⟩⟩⟩⟩⟩⟩⟩⟩⟩⟩
theorem lw_p48 : lw_okq (⟨"HummingSet$Plan", "noisyWeight", "(LHummingSet$Cases;I)J"⟩, 3) := ⟨⟨by decide +kernel, by decide +kernel⟩, List.mem_of_getElem? (i := 154) (by decide +kernel), List.mem_of_getElem? (i := 683) (by decide +kernel), List.mem_of_getElem? (i := 684) (by decide +kernel)⟩
theorem lw_p49 : lw_okq (⟨"HummingSet$Plan", "row", "(LHummingSet$Wireless;LHummingSet$Cases;)V"⟩, 3) := ⟨⟨by decide +kernel, by decide +kernel⟩, List.mem_of_getElem? (i := 154) (by decide +kernel), List.mem_of_getElem? (i := 692) (by decide +kernel), List.mem_of_getElem? (i := 693) (by decide +kernel)⟩
theorem lw_p50 : lw_okq (⟨"HummingSet$Plan", "goOn", "(LHummingSet$Wireless;IJ)V"⟩, 3) := ⟨⟨by decide +kernel, by decide +kernel⟩, List.mem_of_getElem? (i := 154) (by decide +kernel), List.mem_of_getElem? (i := 697) (by decide +kernel), List.mem_of_getElem? (i := 698) (by decide +kernel)⟩
theorem lw_p51 : lw_okq (⟨"HummingSet", "loudWarm", "(I)I"⟩, 12) := ⟨⟨by decide +kernel, by decide +kernel⟩, List.mem_of_getElem? (i := 17) (by decide +kernel), List.mem_of_getElem? (i := 705) (by decide +kernel), List.mem_of_getElem? (i := 706) (by decide +kernel)⟩
theorem lw_p52 : lw_okq (⟨"HummingSet$Wireless", "tonesHowling", "()I"⟩, 10) := ⟨⟨by decide +kernel, by decide +kernel⟩, List.mem_of_getElem? (i := 173) (by decide +kernel), List.mem_of_getElem? (i := 713) (by decide +kernel), List.mem_of_getElem? (i := 714) (by decide +kernel)⟩
theorem lw_p53 : lw_okq (⟨"HummingSet$Wireless", "bringsItsOwn", "(LHummingSet$Way;)Z"⟩, 10) := ⟨⟨by decide +kernel, by decide +kernel⟩, List.mem_of_getElem? (i := 173) (by decide +kernel), List.mem_of_getElem? (i := 717) (by decide +kernel), List.mem_of_getElem? (i := 718) (by decide +kernel)⟩
theorem lw_p54 : lw_okq (⟨"HummingSet$Wireless", "goneOf", "(II)I"⟩, 10) := ⟨⟨by decide +kernel, by decide +kernel⟩, List.mem_of_getElem? (i := 173) (by decide +kernel), List.mem_of_getElem? (i := 727) (by decide +kernel), List.mem_of_getElem? (i := 728) (by decide +kernel)⟩
theorem lw_p55 : lw_okq (⟨"HummingSet$Answers", "copyFrom", "(LHummingSet$Answers;)V"⟩, 5) := ⟨⟨by decide +kernel, by decide +kernel⟩, List.mem_of_getElem? (i := 72) (by decide +kernel), List.mem_of_getElem? (i := 749) (by decide +kernel), List.mem_of_getElem? (i := 750) (by decide +kernel)⟩
theorem lw_p56 : lw_okq (⟨"HummingSetModel", "noSet", "(I)V"⟩, 38) := ⟨⟨by decide +kernel, by decide +kernel⟩, List.mem_of_getElem? (i := 762) (by decide +kernel), List.mem_of_getElem? (i := 768) (by decide +kernel), List.mem_of_getElem? (i := 769) (by decide +kernel)⟩
theorem lw_p57 : lw_okq (⟨"HummingSetModel", "noPart", "(I)V"⟩, 38) := ⟨⟨by decide +kernel, by decide +kernel⟩, List.mem_of_getElem? (i := 762) (by decide +kernel), List.mem_of_getElem? (i := 772) (by decide +kernel), List.mem_of_getElem? (i := 773) (by decide +kernel)⟩
theorem lw_p58 : lw_okq (⟨"HummingSetModel", "readAll", "()I"⟩, 38) := ⟨⟨by decide +kernel, by decide +kernel⟩, List.mem_of_getElem? (i := 762) (by decide +kernel), List.mem_of_getElem? (i := 908) (by decide +kernel), List.mem_of_getElem? (i := 909) (by decide +kernel)⟩
theorem lw_p59 : lw_okq (⟨"HummingSetModel", "item", "()Z"⟩, 38) := ⟨⟨by decide +kernel, by decide +kernel⟩, List.mem_of_getElem? (i := 762) (by decide +kernel), List.mem_of_getElem? (i := 912) (by decide +kernel), List.mem_of_getElem? (i := 913) (by decide +kernel)⟩
theorem lw_p60 : lw_okq (⟨"HummingSetModel", "byteAt", "(I)I"⟩, 38) := ⟨⟨by decide +kernel, by decide +kernel⟩, List.mem_of_getElem? (i := 762) (by decide +kernel), List.mem_of_getElem? (i := 916) (by decide +kernel), List.mem_of_getElem? (i := 917) (by decide +kernel)⟩
theorem lw_p61 : lw_okq (⟨"HummingSetModel", "stageItem", "()Z"⟩, 38) := ⟨⟨by decide +kernel, by decide +kernel⟩, List.mem_of_getElem? (i := 762) (by decide +kernel), List.mem_of_getElem? (i := 920) (by decide +kernel), List.mem_of_getElem? (i := 921) (by decide +kernel)⟩
theorem lw_p62 : lw_okq (⟨"HummingSetModel", "figures", "(I)Z"⟩, 38) := ⟨⟨by decide +kernel, by decide +kernel⟩, List.mem_of_getElem? (i := 762) (by decide +kernel), List.mem_of_getElem? (i := 924) (by decide +kernel), List.mem_of_getElem? (i := 925) (by decide +kernel)⟩
theorem lw_p63 : lw_okq (⟨"HummingSetModel", "partItem", "()Z"⟩, 38) := ⟨⟨by decide +kernel, by decide +kernel⟩, List.mem_of_getElem? (i := 762) (by decide +kernel), List.mem_of_getElem? (i := 933) (by decide +kernel), List.mem_of_getElem? (i := 934) (by decide +kernel)⟩
def lw_privs_4 : List (MethodName × Nat) := [(⟨"HummingSet$Plan", "noisyWeight", "(LHummingSet$Cases;I)J"⟩, 3), (⟨"HummingSet$Plan", "row", "(LHummingSet$Wireless;LHummingSet$Cases;)V"⟩, 3), (⟨"HummingSet$Plan", "goOn", "(LHummingSet$Wireless;IJ)V"⟩, 3), (⟨"HummingSet", "loudWarm", "(I)I"⟩, 12), (⟨"HummingSet$Wireless", "tonesHowling", "()I"⟩, 10), (⟨"HummingSet$Wireless", "bringsItsOwn", "(LHummingSet$Way;)Z"⟩, 10), (⟨"HummingSet$Wireless", "goneOf", "(II)I"⟩, 10), (⟨"HummingSet$Answers", "copyFrom", "(LHummingSet$Answers;)V"⟩, 5), (⟨"HummingSetModel", "noSet", "(I)V"⟩, 38), (⟨"HummingSetModel", "noPart", "(I)V"⟩, 38), (⟨"HummingSetModel", "readAll", "()I"⟩, 38), (⟨"HummingSetModel", "item", "()Z"⟩, 38), (⟨"HummingSetModel", "byteAt", "(I)I"⟩, 38), (⟨"HummingSetModel", "stageItem", "()Z"⟩, 38), (⟨"HummingSetModel", "figures", "(I)Z"⟩, 38), (⟨"HummingSetModel", "partItem", "()Z"⟩, 38)]
theorem lw_r4 : ∀ q ∈ lw_privs_4, lw_okq q := List.forall_mem_cons.mpr ⟨lw_p48, List.forall_mem_cons.mpr ⟨lw_p49, List.forall_mem_cons.mpr ⟨lw_p50, List.forall_mem_cons.mpr ⟨lw_p51, List.forall_mem_cons.mpr ⟨lw_p52, List.forall_mem_cons.mpr ⟨lw_p53, List.forall_mem_cons.mpr ⟨lw_p54, List.forall_mem_cons.mpr ⟨lw_p55, List.forall_mem_cons.mpr ⟨lw_p56, List.forall_mem_cons.mpr ⟨lw_p57, List.forall_mem_cons.mpr ⟨lw_p58, List.forall_mem_cons.mpr ⟨lw_p59, List.forall_mem_cons.mpr ⟨lw_p60, List.forall_mem_cons.mpr ⟨lw_p61, List.forall_mem_cons.mpr ⟨lw_p62, List.forall_mem_cons.mpr ⟨lw_p63, fun _ h => absurd h List.not_mem_nil⟩⟩⟩⟩⟩⟩⟩⟩⟩⟩⟩⟩⟩⟩⟩⟩
theorem lw_p64 : lw_okq (⟨"HummingSetModel", "isStageTold", "()Z"⟩, 38) := ⟨⟨by decide +kernel, by decide +kernel⟩, List.mem_of_getElem? (i := 762) (by decide +kernel), List.mem_of_getElem? (i := 937) (by decide +kernel), List.mem_of_getElem? (i := 938) (by decide +kernel)⟩
theorem lw_p65 : lw_okq (⟨"HummingSetModel", "letItem", "()Z"⟩, 38) := ⟨⟨by decide +kernel, by decide +kernel⟩, List.mem_of_getElem? (i := 762) (by decide +kernel), List.mem_of_getElem? (i := 944) (by decide +kernel), List.mem_of_getElem? (i := 945) (by decide +kernel)⟩
theorem lw_p66 : lw_okq (⟨"HummingSetModel", "isPartTold", "()Z"⟩, 38) := ⟨⟨by decide +kernel, by decide +kernel⟩, List.mem_of_getElem? (i := 762) (by decide +kernel), List.mem_of_getElem? (i := 948) (by decide +kernel), List.mem_of_getElem? (i := 949) (by decide +kernel)⟩
theorem lw_p67 : lw_okq (⟨"HummingSetModel", "comeItem", "()Z"⟩, 38) := ⟨⟨by decide +kernel, by decide +kernel⟩, List.mem_of_getElem? (i := 762) (by decide +kernel), List.mem_of_getElem? (i := 954) (by decide +kernel), List.mem_of_getElem? (i := 955) (by decide +kernel)⟩
theorem lw_p68 : lw_okq (⟨"HummingSetModel", "wayItem", "()Z"⟩, 38) := ⟨⟨by decide +kernel, by decide +kernel⟩, List.mem_of_getElem? (i := 762) (by decide +kernel), List.mem_of_getElem? (i := 958) (by decide +kernel), List.mem_of_getElem? (i := 959) (by decide +kernel)⟩
theorem lw_p69 : lw_okq (⟨"HummingSetModel", "isPart", "(I)Z"⟩, 38) := ⟨⟨by decide +kernel, by decide +kernel⟩, List.mem_of_getElem? (i := 762) (by decide +kernel), List.mem_of_getElem? (i := 974) (by decide +kernel), List.mem_of_getElem? (i := 975) (by decide +kernel)⟩
theorem lw_p70 : lw_okq (⟨"HummingSetModel", "isState", "(I)Z"⟩, 38) := ⟨⟨by decide +kernel, by decide +kernel⟩, List.mem_of_getElem? (i := 762) (by decide +kernel), List.mem_of_getElem? (i := 983) (by decide +kernel), List.mem_of_getElem? (i := 984) (by decide +kernel)⟩
theorem lw_p71 : lw_okq (⟨"HummingSetModel", "endOf", "(IIIII)I"⟩, 38) := ⟨⟨by decide +kernel, by decide +kernel⟩, List.mem_of_getElem? (i := 762) (by decide +kernel), List.mem_of_getElem? (i := 990) (by decide +kernel), List.mem_of_getElem? (i := 991) (by decide +kernel)⟩
theorem lw_p72 : lw_okq (⟨"HummingSetModel", "inOf", "(IIIIII)I"⟩, 38) := ⟨⟨by decide +kernel, by decide +kernel⟩, List.mem_of_getElem? (i := 762) (by decide +kernel), List.mem_of_getElem? (i := 994) (by decide +kernel), List.mem_of_getElem? (i := 995) (by decide +kernel)⟩
theorem lw_p73 : lw_okq (⟨"HummingSetModel", "isStage", "(I)Z"⟩, 38) := ⟨⟨by decide +kernel, by decide +kernel⟩, List.mem_of_getElem? (i := 762) (by decide +kernel), List.mem_of_getElem? (i := 1006) (by decide +kernel), List.mem_of_getElem? (i := 1007) (by decide +kernel)⟩
theorem lw_p74 : lw_okq (⟨"HummingSetModel", "heardOf", "(IIII)I"⟩, 38) := ⟨⟨by decide +kernel, by decide +kernel⟩, List.mem_of_getElem? (i := 762) (by decide +kernel), List.mem_of_getElem? (i := 1014) (by decide +kernel), List.mem_of_getElem? (i := 1015) (by decide +kernel)⟩
theorem lw_p75 : lw_okq (⟨"HummingSetModel", "isAsk", "(II)Z"⟩, 38) := ⟨⟨by decide +kernel, by decide +kernel⟩, List.mem_of_getElem? (i := 762) (by decide +kernel), List.mem_of_getElem? (i := 1025) (by decide +kernel), List.mem_of_getElem? (i := 1026) (by decide +kernel)⟩
theorem lw_p76 : lw_okq (⟨"HummingSetModel", "askOf0", "(IIII)I"⟩, 38) := ⟨⟨by decide +kernel, by decide +kernel⟩, List.mem_of_getElem? (i := 762) (by decide +kernel), List.mem_of_getElem? (i := 1029) (by decide +kernel), List.mem_of_getElem? (i := 1030) (by decide +kernel)⟩
theorem lw_p77 : lw_okq (⟨"HummingSetModel", "riskOf", "(II)I"⟩, 38) := ⟨⟨by decide +kernel, by decide +kernel⟩, List.mem_of_getElem? (i := 762) (by decide +kernel), List.mem_of_getElem? (i := 1037) (by decide +kernel), List.mem_of_getElem? (i := 1038) (by decide +kernel)⟩
theorem lw_p78 : lw_okq (⟨"HummingSetModel", "voltsOf", "(II)I"⟩, 38) := ⟨⟨by decide +kernel, by decide +kernel⟩, List.mem_of_getElem? (i := 762) (by decide +kernel), List.mem_of_getElem? (i := 1045) (by decide +kernel), List.mem_of_getElem? (i := 1046) (by decide +kernel)⟩
theorem lw_p79 : lw_okq (⟨"HummingSetModel", "layStates", "()V"⟩, 38) := ⟨⟨by decide +kernel, by decide +kernel⟩, List.mem_of_getElem? (i := 762) (by decide +kernel), List.mem_of_getElem? (i := 1066) (by decide +kernel), List.mem_of_getElem? (i := 1067) (by decide +kernel)⟩
def lw_privs_5 : List (MethodName × Nat) := [(⟨"HummingSetModel", "isStageTold", "()Z"⟩, 38), (⟨"HummingSetModel", "letItem", "()Z"⟩, 38), (⟨"HummingSetModel", "isPartTold", "()Z"⟩, 38), (⟨"HummingSetModel", "comeItem", "()Z"⟩, 38), (⟨"HummingSetModel", "wayItem", "()Z"⟩, 38), (⟨"HummingSetModel", "isPart", "(I)Z"⟩, 38), (⟨"HummingSetModel", "isState", "(I)Z"⟩, 38), (⟨"HummingSetModel", "endOf", "(IIIII)I"⟩, 38), (⟨"HummingSetModel", "inOf", "(IIIIII)I"⟩, 38), (⟨"HummingSetModel", "isStage", "(I)Z"⟩, 38), (⟨"HummingSetModel", "heardOf", "(IIII)I"⟩, 38), (⟨"HummingSetModel", "isAsk", "(II)Z"⟩, 38), (⟨"HummingSetModel", "askOf0", "(IIII)I"⟩, 38), (⟨"HummingSetModel", "riskOf", "(II)I"⟩, 38), (⟨"HummingSetModel", "voltsOf", "(II)I"⟩, 38), (⟨"HummingSetModel", "layStates", "()V"⟩, 38)]
theorem lw_r5 : ∀ q ∈ lw_privs_5, lw_okq q := List.forall_mem_cons.mpr ⟨lw_p64, List.forall_mem_cons.mpr ⟨lw_p65, List.forall_mem_cons.mpr ⟨lw_p66, List.forall_mem_cons.mpr ⟨lw_p67, List.forall_mem_cons.mpr ⟨lw_p68, List.forall_mem_cons.mpr ⟨lw_p69, List.forall_mem_cons.mpr ⟨lw_p70, List.forall_mem_cons.mpr ⟨lw_p71, List.forall_mem_cons.mpr ⟨lw_p72, List.forall_mem_cons.mpr ⟨lw_p73, List.forall_mem_cons.mpr ⟨lw_p74, List.forall_mem_cons.mpr ⟨lw_p75, List.forall_mem_cons.mpr ⟨lw_p76, List.forall_mem_cons.mpr ⟨lw_p77, List.forall_mem_cons.mpr ⟨lw_p78, List.forall_mem_cons.mpr ⟨lw_p79, fun _ h => absurd h List.not_mem_nil⟩⟩⟩⟩⟩⟩⟩⟩⟩⟩⟩⟩⟩⟩⟩⟩
theorem lw_p80 : lw_okq (⟨"HummingSetModel", "weightOf", "(I)J"⟩, 38) := ⟨⟨by decide +kernel, by decide +kernel⟩, List.mem_of_getElem? (i := 762) (by decide +kernel), List.mem_of_getElem? (i := 1073) (by decide +kernel), List.mem_of_getElem? (i := 1074) (by decide +kernel)⟩
theorem lw_p81 : lw_okq (⟨"HummingSetModel", "fits", "(I)Z"⟩, 38) := ⟨⟨by decide +kernel, by decide +kernel⟩, List.mem_of_getElem? (i := 762) (by decide +kernel), List.mem_of_getElem? (i := 1077) (by decide +kernel), List.mem_of_getElem? (i := 1078) (by decide +kernel)⟩
theorem lw_p82 : lw_okq (⟨"HummingSetModel", "weightOfAll", "()J"⟩, 38) := ⟨⟨by decide +kernel, by decide +kernel⟩, List.mem_of_getElem? (i := 762) (by decide +kernel), List.mem_of_getElem? (i := 1081) (by decide +kernel), List.mem_of_getElem? (i := 1082) (by decide +kernel)⟩
theorem lw_p83 : lw_okq (⟨"HummingSetModel", "worstOf", "(III)J"⟩, 38) := ⟨⟨by decide +kernel, by decide +kernel⟩, List.mem_of_getElem? (i := 762) (by decide +kernel), List.mem_of_getElem? (i := 1101) (by decide +kernel), List.mem_of_getElem? (i := 1102) (by decide +kernel)⟩
theorem lw_p84 : lw_okq (⟨"HummingSetModel", "isQuiet", "(I)Z"⟩, 38) := ⟨⟨by decide +kernel, by decide +kernel⟩, List.mem_of_getElem? (i := 762) (by decide +kernel), List.mem_of_getElem? (i := 1113) (by decide +kernel), List.mem_of_getElem? (i := 1114) (by decide +kernel)⟩
theorem lw_p85 : lw_okq (⟨"HummingSetModel", "costOf", "(I)I"⟩, 38) := ⟨⟨by decide +kernel, by decide +kernel⟩, List.mem_of_getElem? (i := 762) (by decide +kernel), List.mem_of_getElem? (i := 1117) (by decide +kernel), List.mem_of_getElem? (i := 1118) (by decide +kernel)⟩
theorem lw_p86 : lw_okq (⟨"HummingSetModel", "layRows", "()V"⟩, 38) := ⟨⟨by decide +kernel, by decide +kernel⟩, List.mem_of_getElem? (i := 762) (by decide +kernel), List.mem_of_getElem? (i := 1125) (by decide +kernel), List.mem_of_getElem? (i := 1126) (by decide +kernel)⟩
theorem lw_p87 : lw_okq (⟨"HummingSetModel", "hums", "(I)J"⟩, 38) := ⟨⟨by decide +kernel, by decide +kernel⟩, List.mem_of_getElem? (i := 762) (by decide +kernel), List.mem_of_getElem? (i := 1129) (by decide +kernel), List.mem_of_getElem? (i := 1130) (by decide +kernel)⟩
theorem lw_p88 : lw_okq (⟨"HummingSetModel", "loudOf", "(I)I"⟩, 38) := ⟨⟨by decide +kernel, by decide +kernel⟩, List.mem_of_getElem? (i := 762) (by decide +kernel), List.mem_of_getElem? (i := 1137) (by decide +kernel), List.mem_of_getElem? (i := 1138) (by decide +kernel)⟩
theorem lw_p89 : lw_okq (⟨"HummingSetModel", "goesOf", "(II)I"⟩, 38) := ⟨⟨by decide +kernel, by decide +kernel⟩, List.mem_of_getElem? (i := 762) (by decide +kernel), List.mem_of_getElem? (i := 1150) (by decide +kernel), List.mem_of_getElem? (i := 1151) (by decide +kernel)⟩
theorem lw_p90 : lw_okq (⟨"HummingSetModel", "copy", "(II)V"⟩, 38) := ⟨⟨by decide +kernel, by decide +kernel⟩, List.mem_of_getElem? (i := 762) (by decide +kernel), List.mem_of_getElem? (i := 1172) (by decide +kernel), List.mem_of_getElem? (i := 1173) (by decide +kernel)⟩
def lw_privs_6 : List (MethodName × Nat) := [(⟨"HummingSetModel", "weightOf", "(I)J"⟩, 38), (⟨"HummingSetModel", "fits", "(I)Z"⟩, 38), (⟨"HummingSetModel", "weightOfAll", "()J"⟩, 38), (⟨"HummingSetModel", "worstOf", "(III)J"⟩, 38), (⟨"HummingSetModel", "isQuiet", "(I)Z"⟩, 38), (⟨"HummingSetModel", "costOf", "(I)I"⟩, 38), (⟨"HummingSetModel", "layRows", "()V"⟩, 38), (⟨"HummingSetModel", "hums", "(I)J"⟩, 38), (⟨"HummingSetModel", "loudOf", "(I)I"⟩, 38), (⟨"HummingSetModel", "goesOf", "(II)I"⟩, 38), (⟨"HummingSetModel", "copy", "(II)V"⟩, 38)]
theorem lw_r6 : ∀ q ∈ lw_privs_6, lw_okq q := List.forall_mem_cons.mpr ⟨lw_p80, List.forall_mem_cons.mpr ⟨lw_p81, List.forall_mem_cons.mpr ⟨lw_p82, List.forall_mem_cons.mpr ⟨lw_p83, List.forall_mem_cons.mpr ⟨lw_p84, List.forall_mem_cons.mpr ⟨lw_p85, List.forall_mem_cons.mpr ⟨lw_p86, List.forall_mem_cons.mpr ⟨lw_p87, List.forall_mem_cons.mpr ⟨lw_p88, List.forall_mem_cons.mpr ⟨lw_p89, List.forall_mem_cons.mpr ⟨lw_p90, fun _ h => absurd h List.not_mem_nil⟩⟩⟩⟩⟩⟩⟩⟩⟩⟩⟩
def lw_privs : List (MethodName × Nat) := lw_privs_1 ++ (lw_privs_2 ++ (lw_privs_3 ++ (lw_privs_4 ++ (lw_privs_5 ++ (lw_privs_6)))))
def lw_tbl : List Cond := k2_sels lw_privs ++ tables_1
theorem lw_privs_ok : ∀ q ∈ lw_privs, lw_okq q := by
  show ∀ q ∈ lw_privs_1 ++ (lw_privs_2 ++ (lw_privs_3 ++ (lw_privs_4 ++ (lw_privs_5 ++ (lw_privs_6))))), lw_okq q
  exact List.forall_mem_append.mpr ⟨lw_r1, List.forall_mem_append.mpr ⟨lw_r2, List.forall_mem_append.mpr ⟨lw_r3, List.forall_mem_append.mpr ⟨lw_r4, List.forall_mem_append.mpr ⟨lw_r5, lw_r6⟩⟩⟩⟩⟩
-- ===== end of PART A; then your names; then what follows =====
end
section
/-! ===== the abstract machine ===== -/
abbrev ZMi : Type := Nat → Nat → Int32
abbrev ZMl : Type := Nat → Nat → Int64
abbrev ZMr : Type := Nat → Nat → Nat
/-- shapes: kind and length, by name -/
abbrev ZKh : Type := Nat → Nat × Nat
abbrev ZNx : Type := Nat → List Value → List Value → ZMi → ZMl → ZMr → Prop
abbrev ZRt : Type := Option Value → ZMi → ZMl → ZMr → Prop
abbrev ZCx : Type := Nat → List Value → ZMi → ZMl → ZMr → ZRt → Prop
abbrev ZIns : Type := ZKh → Nat → ZNx → ZRt → ZCx → List Value → List Value → ZMi → ZMl → ZMr → Prop
def zup {α : Type} (f : Nat → Nat → α) (a k : Nat) (x : α) : Nat → Nat → α := fun b j => if b = a ∧ j = k then x else f b j
theorem zup_s {α : Type} (f : Nat → Nat → α) (a k : Nat) (x : α) : zup f a k x a k = x := by simp [zup]
theorem zup_n {α : Type} (f : Nat → Nat → α) (a k : Nat) (x : α) {b j : Nat} (h : ¬ (b = a ∧ j = k)) : zup f a k x b j = f b j := by simp [zup, h]
theorem zup_na {α : Type} (f : Nat → Nat → α) (a k : Nat) (x : α) {b j : Nat} (h : b ≠ a) : zup f a k x b j = f b j := by simp [zup, h]
theorem zup_nk {α : Type} (f : Nat → Nat → α) (a k : Nat) (x : α) {b j : Nat} (h : j ≠ k) : zup f a k x b j = f b j := by simp [zup, h]
/-- a store into the locals -/
def zkl (ls : List Value) (i : Nat) : List Value := match i with
  | 0 => ls
  | j + 1 => match ls[j]? with
    | some (.long _) => ls.set j .null
    | some (.double _) => ls.set j .null
    | _ => ls
def zst (ls : List Value) (i : Nat) (v : Value) : List Value := match v with
  | .long x => ((zkl ls i).set i (.long x)).set (i + 1) .null
  | w => (zkl ls i).set i w
/-- arguments off the stack -/
def zarg : Nat → List Value → List Value → Option (List Value × List Value)
  | 0, acc, st => some (acc, st)
  | n + 1, acc, v :: st => zarg n (v :: acc) st
  | _ + 1, _, [] => none
def zsl : List Value → List Value
  | [] => []
  | .long x :: r => .long x :: .null :: zsl r
  | .double x :: r => .double x :: .null :: zsl r
  | v :: r => v :: zsl r
def zent (n : Nat) (as : List Value) : List Value := zsl as ++ List.replicate (n - (zsl as).length) .null
def zck (ml : Nat) (as st : List Value) : Bool := Nat.ble ((st.map fun v => v.category).sum) 8 && Nat.ble (zsl as).length ml
-- constants, locals
def z_ic (v : Int32) (n : Nat) : ZIns := fun _ pc nx _ _ ls st I L R => nx (pc + n) ls (.int v :: st) I L R
def z_lc (v : Int64) (n : Nat) : ZIns := fun _ pc nx _ _ ls st I L R => nx (pc + n) ls (.long v :: st) I L R
def z_il (i n : Nat) : ZIns := fun _ pc nx _ _ ls st I L R => match ls[i]? with
  | some (.int x) => nx (pc + n) ls (.int x :: st) I L R
  | _ => False
def z_ll (i n : Nat) : ZIns := fun _ pc nx _ _ ls st I L R => match ls[i]? with
  | some (.long x) => nx (pc + n) ls (.long x :: st) I L R
  | _ => False
def z_al (i n : Nat) : ZIns := fun _ pc nx _ _ ls st I L R => match ls[i]? with
  | some (.ref x) => nx (pc + n) ls (.ref x :: st) I L R
  | _ => False
def z_is (i n : Nat) : ZIns := fun _ pc nx _ _ ls st I L R => match st with
  | .int x :: r => i < ls.length ∧ nx (pc + n) (zst ls i (.int x)) r I L R
  | _ => False
def z_ls (i n : Nat) : ZIns := fun _ pc nx _ _ ls st I L R => match st with
  | .long x :: r => i + 1 < ls.length ∧ nx (pc + n) (zst ls i (.long x)) r I L R
  | _ => False
def z_as (i n : Nat) : ZIns := fun _ pc nx _ _ ls st I L R => match st with
  | .ref x :: r => i < ls.length ∧ nx (pc + n) (zst ls i (.ref x)) r I L R
  | _ => False
def z_inc (i : Nat) (d : Int32) : ZIns := fun _ pc nx _ _ ls st I L R => match ls[i]? with
  | some (.int x) => ∃ y : Int32, x + d = y ∧ nx (pc + 3) (zst ls i (.int y)) st I L R
  | _ => False
-- arithmetic
def z_iadd : ZIns := fun _ pc nx _ _ ls st I L R => match st with
  | .int y :: .int x :: r => nx (pc + 1) ls (.int (x + y) :: r) I L R
  | _ => False
def z_isub : ZIns := fun _ pc nx _ _ ls st I L R => match st with
  | .int y :: .int x :: r => nx (pc + 1) ls (.int (x - y) :: r) I L R
  | _ => False
def z_imul : ZIns := fun _ pc nx _ _ ls st I L R => match st with
  | .int y :: .int x :: r => nx (pc + 1) ls (.int (x * y) :: r) I L R
  | _ => False
def z_iand : ZIns := fun _ pc nx _ _ ls st I L R => match st with
  | .int y :: .int x :: r => nx (pc + 1) ls (.int (x &&& y) :: r) I L R
  | _ => False
def z_ior : ZIns := fun _ pc nx _ _ ls st I L R => match st with
  | .int y :: .int x :: r => nx (pc + 1) ls (.int (x ||| y) :: r) I L R
  | _ => False
def z_ixor : ZIns := fun _ pc nx _ _ ls st I L R => match st with
  | .int y :: .int x :: r => nx (pc + 1) ls (.int (x ^^^ y) :: r) I L R
  | _ => False
def z_idiv : ZIns := fun _ pc nx _ _ ls st I L R => match st with
  | .int y :: .int x :: r => ¬ y = 0 ∧ nx (pc + 1) ls (.int (x / y) :: r) I L R
  | _ => False
def z_irem : ZIns := fun _ pc nx _ _ ls st I L R => match st with
  | .int y :: .int x :: r => ¬ y = 0 ∧ nx (pc + 1) ls (.int (x - x / y * y) :: r) I L R
  | _ => False
def z_ineg : ZIns := fun _ pc nx _ _ ls st I L R => match st with
  | .int x :: r => nx (pc + 1) ls (.int (-x) :: r) I L R
  | _ => False
def z_ishl : ZIns := fun _ pc nx _ _ ls st I L R => match st with
  | .int y :: .int x :: r => nx (pc + 1) ls (.int (x <<< (y &&& 31)) :: r) I L R
  | _ => False
def z_ishr : ZIns := fun _ pc nx _ _ ls st I L R => match st with
  | .int y :: .int x :: r => nx (pc + 1) ls (.int (x >>> (y &&& 31)) :: r) I L R
  | _ => False
def z_iushr : ZIns := fun _ pc nx _ _ ls st I L R => match st with
  | .int y :: .int x :: r => nx (pc + 1) ls (.int ((x.toUInt32 >>> (y.toUInt32 &&& Int32.toUInt32 31)).toInt32) :: r) I L R
  | _ => False
def z_ladd : ZIns := fun _ pc nx _ _ ls st I L R => match st with
  | .long y :: .long x :: r => nx (pc + 1) ls (.long (x + y) :: r) I L R
  | _ => False
def z_lsub : ZIns := fun _ pc nx _ _ ls st I L R => match st with
  | .long y :: .long x :: r => nx (pc + 1) ls (.long (x - y) :: r) I L R
  | _ => False
def z_lmul : ZIns := fun _ pc nx _ _ ls st I L R => match st with
  | .long y :: .long x :: r => nx (pc + 1) ls (.long (x * y) :: r) I L R
  | _ => False
def z_land : ZIns := fun _ pc nx _ _ ls st I L R => match st with
  | .long y :: .long x :: r => nx (pc + 1) ls (.long (x &&& y) :: r) I L R
  | _ => False
def z_lor : ZIns := fun _ pc nx _ _ ls st I L R => match st with
  | .long y :: .long x :: r => nx (pc + 1) ls (.long (x ||| y) :: r) I L R
  | _ => False
def z_ldiv : ZIns := fun _ pc nx _ _ ls st I L R => match st with
  | .long y :: .long x :: r => ¬ y = 0 ∧ nx (pc + 1) ls (.long (x / y) :: r) I L R
  | _ => False
def z_lrem : ZIns := fun _ pc nx _ _ ls st I L R => match st with
  | .long y :: .long x :: r => ¬ y = 0 ∧ nx (pc + 1) ls (.long (x - x / y * y) :: r) I L R
  | _ => False
def z_lshl : ZIns := fun _ pc nx _ _ ls st I L R => match st with
  | .int y :: .long x :: r => nx (pc + 1) ls (.long (x <<< (y.toInt64 &&& 63)) :: r) I L R
  | _ => False
def z_lshr : ZIns := fun _ pc nx _ _ ls st I L R => match st with
  | .int y :: .long x :: r => nx (pc + 1) ls (.long (x >>> (y.toInt64 &&& 63)) :: r) I L R
  | _ => False
def z_lushr : ZIns := fun _ pc nx _ _ ls st I L R => match st with
  | .int y :: .long x :: r => nx (pc + 1) ls (.long ((x.toUInt64 >>> (y.toInt64.toUInt64 &&& Int64.toUInt64 63)).toInt64) :: r) I L R
  | _ => False
def z_i2l : ZIns := fun _ pc nx _ _ ls st I L R => match st with
  | .int x :: r => nx (pc + 1) ls (.long x.toInt64 :: r) I L R
  | _ => False
def z_l2i : ZIns := fun _ pc nx _ _ ls st I L R => match st with
  | .long x :: r => nx (pc + 1) ls (.int x.toInt32 :: r) I L R
  | _ => False
def z_i2b : ZIns := fun _ pc nx _ _ ls st I L R => match st with
  | .int x :: r => nx (pc + 1) ls (.int x.toInt8.toInt32 :: r) I L R
  | _ => False
def z_lcmp : ZIns := fun _ pc nx _ _ ls st I L R => match st with
  | .long y :: .long x :: r => nx (pc + 1) ls (.int (lg_cmp x y) :: r) I L R
  | _ => False
-- stack
def z_dup : ZIns := fun _ pc nx _ _ ls st I L R => match st with
  | v :: r => v.category = 1 ∧ nx (pc + 1) ls (v :: v :: r) I L R
  | _ => False
def z_dup2 : ZIns := fun _ pc nx _ _ ls st I L R => match st with
  | v :: w :: r => v.category = 1 ∧ w.category = 1 ∧ nx (pc + 1) ls (v :: w :: v :: w :: r) I L R
  | _ => False
def z_pop : ZIns := fun _ pc nx _ _ ls st I L R => match st with
  | v :: r => v.category = 1 ∧ nx (pc + 1) ls r I L R
  | _ => False
-- branches
def z_goto (t : Nat) : ZIns := fun _ _ nx _ _ ls st I L R => nx t ls st I L R
def z_ifeq (t : Nat) : ZIns := fun _ pc nx _ _ ls st I L R => match st with
  | .int x :: r => (x = 0 → nx t ls r I L R) ∧ (¬ x = 0 → nx (pc + 3) ls r I L R)
  | _ => False
def z_ifne (t : Nat) : ZIns := fun _ pc nx _ _ ls st I L R => match st with
  | .int x :: r => (¬ x = 0 → nx t ls r I L R) ∧ (x = 0 → nx (pc + 3) ls r I L R)
  | _ => False
def z_iflt (t : Nat) : ZIns := fun _ pc nx _ _ ls st I L R => match st with
  | .int x :: r => (x < 0 → nx t ls r I L R) ∧ (¬ x < 0 → nx (pc + 3) ls r I L R)
  | _ => False
def z_ifge (t : Nat) : ZIns := fun _ pc nx _ _ ls st I L R => match st with
  | .int x :: r => (0 ≤ x → nx t ls r I L R) ∧ (¬ 0 ≤ x → nx (pc + 3) ls r I L R)
  | _ => False
def z_ifgt (t : Nat) : ZIns := fun _ pc nx _ _ ls st I L R => match st with
  | .int x :: r => (0 < x → nx t ls r I L R) ∧ (¬ 0 < x → nx (pc + 3) ls r I L R)
  | _ => False
def z_ifle (t : Nat) : ZIns := fun _ pc nx _ _ ls st I L R => match st with
  | .int x :: r => (x ≤ 0 → nx t ls r I L R) ∧ (¬ x ≤ 0 → nx (pc + 3) ls r I L R)
  | _ => False
def z_ieq (t : Nat) : ZIns := fun _ pc nx _ _ ls st I L R => match st with
  | .int y :: .int x :: r => (x = y → nx t ls r I L R) ∧ (¬ x = y → nx (pc + 3) ls r I L R)
  | _ => False
def z_ine (t : Nat) : ZIns := fun _ pc nx _ _ ls st I L R => match st with
  | .int y :: .int x :: r => (¬ x = y → nx t ls r I L R) ∧ (x = y → nx (pc + 3) ls r I L R)
  | _ => False
def z_ilt (t : Nat) : ZIns := fun _ pc nx _ _ ls st I L R => match st with
  | .int y :: .int x :: r => (x < y → nx t ls r I L R) ∧ (¬ x < y → nx (pc + 3) ls r I L R)
  | _ => False
def z_ige (t : Nat) : ZIns := fun _ pc nx _ _ ls st I L R => match st with
  | .int y :: .int x :: r => (y ≤ x → nx t ls r I L R) ∧ (¬ y ≤ x → nx (pc + 3) ls r I L R)
  | _ => False
def z_igt (t : Nat) : ZIns := fun _ pc nx _ _ ls st I L R => match st with
  | .int y :: .int x :: r => (y < x → nx t ls r I L R) ∧ (¬ y < x → nx (pc + 3) ls r I L R)
  | _ => False
def z_ile (t : Nat) : ZIns := fun _ pc nx _ _ ls st I L R => match st with
  | .int y :: .int x :: r => (x ≤ y → nx t ls r I L R) ∧ (¬ x ≤ y → nx (pc + 3) ls r I L R)
  | _ => False
/-- a switch: the cases in their order, then the default -/
def zsw (x : Int32) (d : Prop) (nx : Nat → Prop) : List (Int32 × Nat) → Prop
  | [] => d
  | q :: r => (x = q.1 → nx q.2) ∧ (¬ x = q.1 → zsw x d nx r)
def z_sw (d : Nat) (qs : List (Int32 × Nat)) : ZIns := fun _ _ nx _ _ ls st I L R => match st with
  | .int x :: r => zsw x (nx d ls r I L R) (fun t => nx t ls r I L R) qs
  | _ => False
-- memory
def z_gI (ci k : Nat) : ZIns := fun K pc nx _ _ ls st I L R => match st with
  | .ref a :: r => (K a).1 = ci ∧ ∃ x : Int32, I a k = x ∧ nx (pc + 3) ls (.int x :: r) I L R
  | _ => False
def z_gL (ci k : Nat) : ZIns := fun K pc nx _ _ ls st I L R => match st with
  | .ref a :: r => (K a).1 = ci ∧ ∃ x : Int64, L a k = x ∧ nx (pc + 3) ls (.long x :: r) I L R
  | _ => False
def z_gR (ci k : Nat) : ZIns := fun K pc nx _ _ ls st I L R => match st with
  | .ref a :: r => (K a).1 = ci ∧ ∃ x : Nat, R a k = x + 1 ∧ nx (pc + 3) ls (.ref x :: r) I L R
  | _ => False
def z_pI (ci k : Nat) : ZIns := fun K pc nx _ _ ls st I L R => match st with
  | .int x :: .ref a :: r => (K a).1 = ci ∧ nx (pc + 3) ls r (zup I a k x) L R
  | _ => False
def z_pL (ci k : Nat) : ZIns := fun K pc nx _ _ ls st I L R => match st with
  | .long x :: .ref a :: r => (K a).1 = ci ∧ nx (pc + 3) ls r I (zup L a k x) R
  | _ => False
def z_pR (ci k : Nat) : ZIns := fun K pc nx _ _ ls st I L R => match st with
  | .ref x :: .ref a :: r => (K a).1 = ci ∧ nx (pc + 3) ls r I L (zup R a k (x + 1))
  | _ => False
/-- an int out of an array of kind kd (int[], byte[], boolean[], a read-only int[]) -/
def z_iald (kd : Nat) : ZIns := fun K pc nx _ _ ls st I L R => match st with
  | .int i :: .ref a :: r => ∃ (n j : Nat) (x : Int32), K a = (kd, n) ∧ i = nI j ∧ j < n ∧ I a j = x ∧ nx (pc + 1) ls (.int x :: r) I L R
  | _ => False
def z_lald : ZIns := fun K pc nx _ _ ls st I L R => match st with
  | .int i :: .ref a :: r => ∃ (n j : Nat) (x : Int64), K a = (21, n) ∧ i = nI j ∧ j < n ∧ L a j = x ∧ nx (pc + 1) ls (.long x :: r) I L R
  | _ => False
def z_aald (kd : Nat) : ZIns := fun K pc nx _ _ ls st I L R => match st with
  | .int i :: .ref a :: r => ∃ (n j x : Nat), K a = (kd, n) ∧ i = nI j ∧ j < n ∧ R a j = x + 1 ∧ nx (pc + 1) ls (.ref x :: r) I L R
  | _ => False
def z_iast : ZIns := fun K pc nx _ _ ls st I L R => match st with
  | .int x :: .int i :: .ref a :: r => ∃ (n j : Nat), K a = (20, n) ∧ i = nI j ∧ j < n ∧ nx (pc + 1) ls r (zup I a j x) L R
  | _ => False
def z_bast : ZIns := fun K pc nx _ _ ls st I L R => match st with
  | .int x :: .int i :: .ref a :: r => ∃ (n j : Nat), K a = (22, n) ∧ i = nI j ∧ j < n ∧ nx (pc + 1) ls r (zup I a j (vp_nar .byte x)) L R
  | _ => False
def z_zast : ZIns := fun K pc nx _ _ ls st I L R => match st with
  | .int x :: .int i :: .ref a :: r => ∃ (n j : Nat), K a = (23, n) ∧ i = nI j ∧ j < n ∧ nx (pc + 1) ls r (zup I a j (vp_nar .boolean x)) L R
  | _ => False
def z_last : ZIns := fun K pc nx _ _ ls st I L R => match st with
  | .long x :: .int i :: .ref a :: r => ∃ (n j : Nat), K a = (21, n) ∧ i = nI j ∧ j < n ∧ nx (pc + 1) ls r I (zup L a j x) R
  | _ => False
def z_alen (kd : Nat) : ZIns := fun K pc nx _ _ ls st I L R => match st with
  | .ref a :: r => ∃ n : Nat, K a = (kd, n) ∧ nx (pc + 1) ls (.int (nI n) :: r) I L R
  | _ => False
/-- the one static array -/
def z_gs : ZIns := fun _ pc nx _ _ ls st I L R => nx (pc + 3) ls (.ref 1 :: st) I L R
-- calls and returns
def z_cV (ci m' ml na : Nat) : ZIns := fun K pc nx _ cx ls st I L R => match zarg na [] st with
  | some (as, .ref a :: r) => (K a).1 = ci ∧ zck ml (.ref a :: as) r = true ∧ cx m' (zent ml (.ref a :: as)) I L R (fun v I' L' R' => nx (pc + 3) ls (v.toList ++ r) I' L' R')
  | _ => False
def z_cS (m' ml na : Nat) : ZIns := fun _ pc nx _ cx ls st I L R => match zarg na [] st with
  | some (as, r) => zck ml as r = true ∧ cx m' (zent ml as) I L R (fun v I' L' R' => nx (pc + 3) ls (v.toList ++ r) I' L' R')
  | _ => False
def z_ir : ZIns := fun _ _ _ rt _ _ st I L R => match st with
  | [.int v] => rt (some (.int v)) I L R
  | _ => False
def z_lr : ZIns := fun _ _ _ rt _ _ st I L R => match st with
  | [.long v] => rt (some (.long v)) I L R
  | _ => False
def z_vr : ZIns := fun _ _ _ rt _ _ st I L R => match st with
  | [] => rt none I L R
  | _ => False
def z_zr : ZIns := fun _ _ _ rt _ _ st I L R => match st with
  | [.int v] => (v = 0 ∨ v = 1) ∧ rt (some (.int v)) I L R
  | _ => False
def z_mmax : ZIns := fun _ pc nx _ _ ls st I L R => match st with
  | .int y :: .int x :: r => zck 0 [] r = true ∧ nx (pc + 3) ls (.int (if x < y then y else x) :: r) I L R
  | _ => False
def z_mmin : ZIns := fun _ pc nx _ _ ls st I L R => match st with
  | .int y :: .int x :: r => zck 0 [] r = true ∧ nx (pc + 3) ls (.int (if y < x then y else x) :: r) I L R
  | _ => False
def z_mabs : ZIns := fun _ pc nx _ _ ls st I L R => match st with
  | .int x :: r => zck 0 [] r = true ∧ nx (pc + 3) ls (.int (if 0 ≤ x then x else 0 - x) :: r) I L R
  | _ => False
def z_mmaxl : ZIns := fun _ pc nx _ _ ls st I L R => match st with
  | .long y :: .long x :: r => zck 0 [] r = true ∧ nx (pc + 3) ls (.long (if y < x then x else y) :: r) I L R
  | _ => False
end
section
/-! ===== the classes, their fields; the words ===== -/
def zWS : List Cond := lw_tbl.filter goodWord
def zisN : Cond → Bool
  | .fieldLinkNest _ _ _ _ _ _ => true
  | .methodLinkNest _ _ _ _ => true
  | _ => false
def zNW : List Cond := tables_1.filter zisN
theorem zmW {w : Cond} (i : Nat) (h : tables_1[i]? = some w) (hg : goodWord w = true) : w ∈ zWS := List.mem_filter.mpr ⟨List.mem_append_right _ (List.mem_of_getElem? h), hg⟩
theorem zmS {w : Cond} (i : Nat) (h : (k2_sels lw_privs)[i]? = some w) (hg : goodWord w = true) : w ∈ zWS := List.mem_filter.mpr ⟨List.mem_append_left _ (List.mem_of_getElem? h), hg⟩
theorem zmN {w : Cond} (i : Nat) (h : tables_1[i]? = some w) (hg : zisN w = true) : w ∈ zNW := List.mem_filter.mpr ⟨List.mem_of_getElem? h, hg⟩
theorem zgood : GoodIn zWS zWS := fun _ h => ⟨h, good_of_word (List.mem_filter.mp h).2⟩
theorem zgoodc {w : Cond} (h : w ∈ zWS) : GoodIn zWS (w :: zWS) := fun v hv => (List.mem_cons.mp hv).elim (fun e => by rw [e]; exact zgood w h) (zgood v)
theorem zNW_warm {s U : State} (hW : s.WarmedH U.vm) (h : ∀ w ∈ zNW, va_Nw w s) : ∀ w ∈ zNW, va_Nw w U := by
  intro w hw
  have h1 := (List.mem_filter.mp hw).2
  have h2 := h w hw
  cases w <;> first | exact va_Nw.warmF hW h2 | exact va_Nw.warmM hW h2 | (simp [zisN] at h1)
theorem zNW_same {s U : State} (hv : s.vm = U.vm) (h : ∀ w ∈ zNW, va_Nw w s) : ∀ w ∈ zNW, va_Nw w U := by
  intro w hw
  have h1 := (List.mem_filter.mp hw).2
  have h2 := h w hw
  refine va_Nw.same ?_ hv h2
  cases w <;> first | rfl | (simp [zisN] at h1)
def zC0 : String := "HummingSet$Answers"
def zT0 : u_T := fun k => match k with
  | 0 => ("HummingSet$Answers", "kinds", "[I", true)
  | 1 => ("HummingSet$Answers", "ofs", "[I", true)
  | 2 => ("HummingSet$Answers", "minutes", "[I", true)
  | 3 => ("HummingSet$Answers", "replies", "[I", true)
  | _ => ("HummingSet$Answers", "count", "I", false)
def zF0 : Nat → FieldType := fun k => match k with
  | 0 => .array .int
  | 1 => .array .int
  | 2 => .array .int
  | 3 => .array .int
  | _ => .int
def zY0 : Nat → Nat := fun k => match k with
  | 0 => 2
  | 1 => 2
  | 2 => 2
  | 3 => 2
  | _ => 0
theorem zn0 : ∀ a, a < 5 → ∀ b, b < 5 → a ≠ b → (zT0 a).2.1 ≠ (zT0 b).2.1 := by decide +kernel
theorem zf0 : ∀ k, k < 5 → parseFieldDescriptor (zT0 k).2.2.1 = some (zF0 k) := by decide +kernel
theorem zl0 : ∀ w ∈ u_ws zC0 zT0 5, w ∈ zWS := by
  intro w hw
  obtain ⟨k, hk, rfl⟩ := List.mem_map.mp hw
  have hk := List.mem_range.mp hk
  match k, hk with
  | 0, _ => exact zmW 88 (by decide +kernel) rfl
  | 1, _ => exact zmW 90 (by decide +kernel) rfl
  | 2, _ => exact zmW 92 (by decide +kernel) rfl
  | 3, _ => exact zmW 94 (by decide +kernel) rfl
  | 4, _ => exact zmW 96 (by decide +kernel) rfl
  | n + 5, h => exact absurd h (by omega)
def zC1 : String := "HummingSet$Bench"
def zT1 : u_T := fun k => match k with
  | 0 => ("HummingSet$Bench", "ins", "[[I", true)
  | _ => ("HummingSet$Bench", "ends", "[I", true)
def zF1 : Nat → FieldType := fun k => match k with
  | 0 => .array (.array .int)
  | _ => .array .int
def zY1 : Nat → Nat := fun k => match k with
  | 0 => 2
  | _ => 2
theorem zn1 : ∀ a, a < 2 → ∀ b, b < 2 → a ≠ b → (zT1 a).2.1 ≠ (zT1 b).2.1 := by decide +kernel
theorem zf1 : ∀ k, k < 2 → parseFieldDescriptor (zT1 k).2.2.1 = some (zF1 k) := by decide +kernel
theorem zl1 : ∀ w ∈ u_ws zC1 zT1 2, w ∈ zWS := by
  intro w hw
  obtain ⟨k, hk, rfl⟩ := List.mem_map.mp hw
  have hk := List.mem_range.mp hk
  match k, hk with
  | 0, _ => exact zmW 66 (by decide +kernel) rfl
  | 1, _ => exact zmW 68 (by decide +kernel) rfl
  | n + 2, h => exact absurd h (by omega)
def zC2 : String := "HummingSet$Cases"
def zT2 : u_T := fun k => match k with
  | 0 => ("HummingSet$Cases", "states", "[I", true)
  | 1 => ("HummingSet$Cases", "weights", "[J", true)
  | 2 => ("HummingSet$Cases", "count", "I", false)
  | _ => ("HummingSet$Cases", "total", "J", false)
def zF2 : Nat → FieldType := fun k => match k with
  | 0 => .array .int
  | 1 => .array .long
  | 2 => .int
  | _ => .long
def zY2 : Nat → Nat := fun k => match k with
  | 0 => 2
  | 1 => 2
  | 2 => 0
  | _ => 1
theorem zn2 : ∀ a, a < 4 → ∀ b, b < 4 → a ≠ b → (zT2 a).2.1 ≠ (zT2 b).2.1 := by decide +kernel
theorem zf2 : ∀ k, k < 4 → parseFieldDescriptor (zT2 k).2.2.1 = some (zF2 k) := by decide +kernel
theorem zl2 : ∀ w ∈ u_ws zC2 zT2 4, w ∈ zWS := by
  intro w hw
  obtain ⟨k, hk, rfl⟩ := List.mem_map.mp hw
  have hk := List.mem_range.mp hk
  match k, hk with
  | 0, _ => exact zmW 118 (by decide +kernel) rfl
  | 1, _ => exact zmW 120 (by decide +kernel) rfl
  | 2, _ => exact zmW 122 (by decide +kernel) rfl
  | 3, _ => exact zmW 124 (by decide +kernel) rfl
  | n + 4, h => exact absurd h (by omega)
def zC3 : String := "HummingSet$Part"
def zT3 : u_T := fun k => match k with
  | 0 => ("HummingSet$Part", "lets", "[I", true)
  | 1 => ("HummingSet$Part", "stage", "I", false)
  | 2 => ("HummingSet$Part", "kind", "I", false)
  | 3 => ("HummingSet$Part", "age", "I", false)
  | 4 => ("HummingSet$Part", "trouble", "I", false)
  | 5 => ("HummingSet$Part", "warm", "I", false)
  | 6 => ("HummingSet$Part", "cost", "I", false)
  | 7 => ("HummingSet$Part", "volts", "I", false)
  | _ => ("HummingSet$Part", "loss", "I", false)
def zF3 : Nat → FieldType := fun k => match k with
  | 0 => .array .int
  | 1 => .int
  | 2 => .int
  | 3 => .int
  | 4 => .int
  | 5 => .int
  | 6 => .int
  | 7 => .int
  | _ => .int
def zY3 : Nat → Nat := fun k => match k with
  | 0 => 2
  | 1 => 0
  | 2 => 0
  | 3 => 0
  | 4 => 0
  | 5 => 0
  | 6 => 0
  | 7 => 0
  | _ => 0
theorem zn3 : ∀ a, a < 9 → ∀ b, b < 9 → a ≠ b → (zT3 a).2.1 ≠ (zT3 b).2.1 := by decide +kernel
theorem zf3 : ∀ k, k < 9 → parseFieldDescriptor (zT3 k).2.2.1 = some (zF3 k) := by decide +kernel
theorem zl3 : ∀ w ∈ u_ws zC3 zT3 9, w ∈ zWS := by
  intro w hw
  obtain ⟨k, hk, rfl⟩ := List.mem_map.mp hw
  have hk := List.mem_range.mp hk
  match k, hk with
  | 0, _ => exact zmW 230 (by decide +kernel) rfl
  | 1, _ => exact zmW 232 (by decide +kernel) rfl
  | 2, _ => exact zmW 234 (by decide +kernel) rfl
  | 3, _ => exact zmW 236 (by decide +kernel) rfl
  | 4, _ => exact zmW 238 (by decide +kernel) rfl
  | 5, _ => exact zmW 240 (by decide +kernel) rfl
  | 6, _ => exact zmW 242 (by decide +kernel) rfl
  | 7, _ => exact zmW 244 (by decide +kernel) rfl
  | 8, _ => exact zmW 246 (by decide +kernel) rfl
  | n + 9, h => exact absurd h (by omega)
def zC4 : String := "HummingSet$Plan"
def zT4 : u_T := fun k => match k with
  | 0 => ("HummingSet$Plan", "quiet", "[Z", true)
  | 1 => ("HummingSet$Plan", "sums", "[J", true)
  | _ => ("HummingSet$Plan", "firstPart", "I", false)
def zF4 : Nat → FieldType := fun k => match k with
  | 0 => .array .boolean
  | 1 => .array .long
  | _ => .int
def zY4 : Nat → Nat := fun k => match k with
  | 0 => 2
  | 1 => 2
  | _ => 0
theorem zn4 : ∀ a, a < 3 → ∀ b, b < 3 → a ≠ b → (zT4 a).2.1 ≠ (zT4 b).2.1 := by decide +kernel
theorem zf4 : ∀ k, k < 3 → parseFieldDescriptor (zT4 k).2.2.1 = some (zF4 k) := by decide +kernel
theorem zl4 : ∀ w ∈ u_ws zC4 zT4 3, w ∈ zWS := by
  intro w hw
  obtain ⟨k, hk, rfl⟩ := List.mem_map.mp hw
  have hk := List.mem_range.mp hk
  match k, hk with
  | 0, _ => exact zmW 164 (by decide +kernel) rfl
  | 1, _ => exact zmW 166 (by decide +kernel) rfl
  | 2, _ => exact zmW 168 (by decide +kernel) rfl
  | n + 3, h => exact absurd h (by omega)
def zC5 : String := "HummingSet$Reader"
def zT5 : u_T := fun k => match k with
  | 0 => ("HummingSet$Reader", "numbers", "[I", true)
  | _ => ("HummingSet$Reader", "place", "I", false)
def zF5 : Nat → FieldType := fun k => match k with
  | 0 => .array .int
  | _ => .int
def zY5 : Nat → Nat := fun k => match k with
  | 0 => 2
  | _ => 0
theorem zn5 : ∀ a, a < 2 → ∀ b, b < 2 → a ≠ b → (zT5 a).2.1 ≠ (zT5 b).2.1 := by decide +kernel
theorem zf5 : ∀ k, k < 2 → parseFieldDescriptor (zT5 k).2.2.1 = some (zF5 k) := by decide +kernel
theorem zl5 : ∀ w ∈ u_ws zC5 zT5 2, w ∈ zWS := by
  intro w hw
  obtain ⟨k, hk, rfl⟩ := List.mem_map.mp hw
  have hk := List.mem_range.mp hk
  match k, hk with
  | 0, _ => exact zmW 48 (by decide +kernel) rfl
  | 1, _ => exact zmW 50 (by decide +kernel) rfl
  | n + 2, h => exact absurd h (by omega)
def zC6 : String := "HummingSet$Search"
def zT6 : u_T := fun k => match k with
  | 0 => ("HummingSet$Search", "byReply", "[J", true)
  | 1 => ("HummingSet$Search", "kind", "I", false)
  | 2 => ("HummingSet$Search", "of", "I", false)
  | 3 => ("HummingSet$Search", "weight", "J", false)
  | _ => ("HummingSet$Search", "danger", "I", false)
def zF6 : Nat → FieldType := fun k => match k with
  | 0 => .array .long
  | 1 => .int
  | 2 => .int
  | 3 => .long
  | _ => .int
def zY6 : Nat → Nat := fun k => match k with
  | 0 => 2
  | 1 => 0
  | 2 => 0
  | 3 => 1
  | _ => 0
theorem zn6 : ∀ a, a < 5 → ∀ b, b < 5 → a ≠ b → (zT6 a).2.1 ≠ (zT6 b).2.1 := by decide +kernel
theorem zf6 : ∀ k, k < 5 → parseFieldDescriptor (zT6 k).2.2.1 = some (zF6 k) := by decide +kernel
theorem zl6 : ∀ w ∈ u_ws zC6 zT6 5, w ∈ zWS := by
  intro w hw
  obtain ⟨k, hk, rfl⟩ := List.mem_map.mp hw
  have hk := List.mem_range.mp hk
  match k, hk with
  | 0, _ => exact zmW 142 (by decide +kernel) rfl
  | 1, _ => exact zmW 144 (by decide +kernel) rfl
  | 2, _ => exact zmW 146 (by decide +kernel) rfl
  | 3, _ => exact zmW 148 (by decide +kernel) rfl
  | 4, _ => exact zmW 150 (by decide +kernel) rfl
  | n + 5, h => exact absurd h (by omega)
def zC7 : String := "HummingSet$Stage"
def zT7 : u_T := fun k => match k with
  | 0 => ("HummingSet$Stage", "mains", "[I", true)
  | 1 => ("HummingSet$Stage", "gain", "I", false)
  | _ => ("HummingSet$Stage", "bears", "I", false)
def zF7 : Nat → FieldType := fun k => match k with
  | 0 => .array .int
  | 1 => .int
  | _ => .int
def zY7 : Nat → Nat := fun k => match k with
  | 0 => 2
  | 1 => 0
  | _ => 0
theorem zn7 : ∀ a, a < 3 → ∀ b, b < 3 → a ≠ b → (zT7 a).2.1 ≠ (zT7 b).2.1 := by decide +kernel
theorem zf7 : ∀ k, k < 3 → parseFieldDescriptor (zT7 k).2.2.1 = some (zF7 k) := by decide +kernel
theorem zl7 : ∀ w ∈ u_ws zC7 zT7 3, w ∈ zWS := by
  intro w hw
  obtain ⟨k, hk, rfl⟩ := List.mem_map.mp hw
  have hk := List.mem_range.mp hk
  match k, hk with
  | 0, _ => exact zmW 195 (by decide +kernel) rfl
  | 1, _ => exact zmW 197 (by decide +kernel) rfl
  | 2, _ => exact zmW 199 (by decide +kernel) rfl
  | n + 3, h => exact absurd h (by omega)
def zC8 : String := "HummingSet$Text"
def zT8 : u_T := fun k => match k with
  | 0 => ("HummingSet$Text", "bytes", "[B", true)
  | _ => ("HummingSet$Text", "length", "I", false)
def zF8 : Nat → FieldType := fun k => match k with
  | 0 => .array .byte
  | _ => .int
def zY8 : Nat → Nat := fun k => match k with
  | 0 => 2
  | _ => 0
theorem zn8 : ∀ a, a < 2 → ∀ b, b < 2 → a ≠ b → (zT8 a).2.1 ≠ (zT8 b).2.1 := by decide +kernel
theorem zf8 : ∀ k, k < 2 → parseFieldDescriptor (zT8 k).2.2.1 = some (zF8 k) := by decide +kernel
theorem zl8 : ∀ w ∈ u_ws zC8 zT8 2, w ∈ zWS := by
  intro w hw
  obtain ⟨k, hk, rfl⟩ := List.mem_map.mp hw
  have hk := List.mem_range.mp hk
  match k, hk with
  | 0, _ => exact zmW 34 (by decide +kernel) rfl
  | 1, _ => exact zmW 36 (by decide +kernel) rfl
  | n + 2, h => exact absurd h (by omega)
def zC9 : String := "HummingSet$Way"
def zT9 : u_T := fun k => match k with
  | 0 => ("HummingSet$Way", "stage", "I", false)
  | 1 => ("HummingSet$Way", "tone", "I", false)
  | _ => ("HummingSet$Way", "hundredths", "I", false)
def zF9 : Nat → FieldType := fun k => match k with
  | 0 => .int
  | 1 => .int
  | _ => .int
def zY9 : Nat → Nat := fun k => match k with
  | 0 => 0
  | 1 => 0
  | _ => 0
theorem zn9 : ∀ a, a < 3 → ∀ b, b < 3 → a ≠ b → (zT9 a).2.1 ≠ (zT9 b).2.1 := by decide +kernel
theorem zf9 : ∀ k, k < 3 → parseFieldDescriptor (zT9 k).2.2.1 = some (zF9 k) := by decide +kernel
theorem zl9 : ∀ w ∈ u_ws zC9 zT9 3, w ∈ zWS := by
  intro w hw
  obtain ⟨k, hk, rfl⟩ := List.mem_map.mp hw
  have hk := List.mem_range.mp hk
  match k, hk with
  | 0, _ => exact zmW 257 (by decide +kernel) rfl
  | 1, _ => exact zmW 259 (by decide +kernel) rfl
  | 2, _ => exact zmW 261 (by decide +kernel) rfl
  | n + 3, h => exact absurd h (by omega)
def zC10 : String := "HummingSet$Wireless"
def zT10 : u_T := fun k => match k with
  | 0 => ("HummingSet$Wireless", "stages", "[LHummingSet$Stage;", true)
  | 1 => ("HummingSet$Wireless", "parts", "[LHummingSet$Part;", true)
  | 2 => ("HummingSet$Wireless", "ways", "[LHummingSet$Way;", true)
  | 3 => ("HummingSet$Wireless", "ears", "[I", true)
  | 4 => ("HummingSet$Wireless", "yearly", "[I", true)
  | 5 => ("HummingSet$Wireless", "stageCount", "I", false)
  | 6 => ("HummingSet$Wireless", "partCount", "I", false)
  | 7 => ("HummingSet$Wireless", "wayCount", "I", false)
  | 8 => ("HummingSet$Wireless", "letCount", "I", false)
  | _ => ("HummingSet$Wireless", "mainsCount", "I", false)
def zF10 : Nat → FieldType := fun k => match k with
  | 0 => .array (.object "HummingSet$Stage")
  | 1 => .array (.object "HummingSet$Part")
  | 2 => .array (.object "HummingSet$Way")
  | 3 => .array .int
  | 4 => .array .int
  | 5 => .int
  | 6 => .int
  | 7 => .int
  | 8 => .int
  | _ => .int
def zY10 : Nat → Nat := fun k => match k with
  | 0 => 2
  | 1 => 2
  | 2 => 2
  | 3 => 2
  | 4 => 2
  | 5 => 0
  | 6 => 0
  | 7 => 0
  | 8 => 0
  | _ => 0
theorem zn10 : ∀ a, a < 10 → ∀ b, b < 10 → a ≠ b → (zT10 a).2.1 ≠ (zT10 b).2.1 := by decide +kernel
theorem zf10 : ∀ k, k < 10 → parseFieldDescriptor (zT10 k).2.2.1 = some (zF10 k) := by decide +kernel
theorem zl10 : ∀ w ∈ u_ws zC10 zT10 10, w ∈ zWS := by
  intro w hw
  obtain ⟨k, hk, rfl⟩ := List.mem_map.mp hw
  have hk := List.mem_range.mp hk
  match k, hk with
  | 0, _ => exact zmW 288 (by decide +kernel) rfl
  | 1, _ => exact zmW 290 (by decide +kernel) rfl
  | 2, _ => exact zmW 292 (by decide +kernel) rfl
  | 3, _ => exact zmW 294 (by decide +kernel) rfl
  | 4, _ => exact zmW 296 (by decide +kernel) rfl
  | 5, _ => exact zmW 298 (by decide +kernel) rfl
  | 6, _ => exact zmW 300 (by decide +kernel) rfl
  | 7, _ => exact zmW 302 (by decide +kernel) rfl
  | 8, _ => exact zmW 304 (by decide +kernel) rfl
  | 9, _ => exact zmW 306 (by decide +kernel) rfl
  | n + 10, h => exact absurd h (by omega)
def zC11 : String := "HummingSet"
def zT11 : u_T := fun k => match k with
  | 0 => ("HummingSet", "text", "LHummingSet$Text;", true)
  | 1 => ("HummingSet", "reader", "LHummingSet$Reader;", true)
  | 2 => ("HummingSet", "bench", "LHummingSet$Bench;", true)
  | 3 => ("HummingSet", "answers", "LHummingSet$Answers;", true)
  | 4 => ("HummingSet", "firstKept", "LHummingSet$Answers;", true)
  | 5 => ("HummingSet", "secondKept", "LHummingSet$Answers;", true)
  | 6 => ("HummingSet", "cases", "LHummingSet$Cases;", true)
  | 7 => ("HummingSet", "search", "LHummingSet$Search;", true)
  | 8 => ("HummingSet", "plan", "LHummingSet$Plan;", true)
  | 9 => ("HummingSet", "laid", "LHummingSet$Wireless;", false)
  | 10 => ("HummingSet", "spare", "LHummingSet$Wireless;", false)
  | _ => ("HummingSet", "kept", "I", false)
def zF11 : Nat → FieldType := fun k => match k with
  | 0 => .object "HummingSet$Text"
  | 1 => .object "HummingSet$Reader"
  | 2 => .object "HummingSet$Bench"
  | 3 => .object "HummingSet$Answers"
  | 4 => .object "HummingSet$Answers"
  | 5 => .object "HummingSet$Answers"
  | 6 => .object "HummingSet$Cases"
  | 7 => .object "HummingSet$Search"
  | 8 => .object "HummingSet$Plan"
  | 9 => .object "HummingSet$Wireless"
  | 10 => .object "HummingSet$Wireless"
  | _ => .int
def zY11 : Nat → Nat := fun k => match k with
  | 0 => 2
  | 1 => 2
  | 2 => 2
  | 3 => 2
  | 4 => 2
  | 5 => 2
  | 6 => 2
  | 7 => 2
  | 8 => 2
  | 9 => 2
  | 10 => 2
  | _ => 0
theorem zn11 : ∀ a, a < 12 → ∀ b, b < 12 → a ≠ b → (zT11 a).2.1 ≠ (zT11 b).2.1 := by decide +kernel
theorem zf11 : ∀ k, k < 12 → parseFieldDescriptor (zT11 k).2.2.1 = some (zF11 k) := by decide +kernel
theorem zl11 : ∀ w ∈ u_ws zC11 zT11 12, w ∈ zWS := by
  intro w hw
  obtain ⟨k, hk, rfl⟩ := List.mem_map.mp hw
  have hk := List.mem_range.mp hk
  match k, hk with
  | 0, _ => exact zmW 416 (by decide +kernel) rfl
  | 1, _ => exact zmW 418 (by decide +kernel) rfl
  | 2, _ => exact zmW 420 (by decide +kernel) rfl
  | 3, _ => exact zmW 422 (by decide +kernel) rfl
  | 4, _ => exact zmW 424 (by decide +kernel) rfl
  | 5, _ => exact zmW 426 (by decide +kernel) rfl
  | 6, _ => exact zmW 428 (by decide +kernel) rfl
  | 7, _ => exact zmW 430 (by decide +kernel) rfl
  | 8, _ => exact zmW 432 (by decide +kernel) rfl
  | 9, _ => exact zmW 434 (by decide +kernel) rfl
  | 10, _ => exact zmW 436 (by decide +kernel) rfl
  | 11, _ => exact zmW 438 (by decide +kernel) rfl
  | n + 12, h => exact absurd h (by omega)
def zC12 : String := "HummingSetModel"
def zT12 : u_T := fun k => match k with
  | 0 => ("HummingSetModel", "length", "I", false)
  | 1 => ("HummingSetModel", "text", "[I", true)
  | 2 => ("HummingSetModel", "stageMany", "[I", true)
  | 3 => ("HummingSetModel", "gains", "[I", true)
  | 4 => ("HummingSetModel", "bears", "[I", true)
  | 5 => ("HummingSetModel", "partMany", "[I", true)
  | 6 => ("HummingSetModel", "stageOf", "[I", true)
  | 7 => ("HummingSetModel", "kinds", "[I", true)
  | 8 => ("HummingSetModel", "ages", "[I", true)
  | 9 => ("HummingSetModel", "chances", "[I", true)
  | 10 => ("HummingSetModel", "warms", "[I", true)
  | 11 => ("HummingSetModel", "costs", "[I", true)
  | 12 => ("HummingSetModel", "volts0", "[I", true)
  | 13 => ("HummingSetModel", "losses", "[I", true)
  | 14 => ("HummingSetModel", "letsMany", "[I", true)
  | 15 => ("HummingSetModel", "lets", "[I", true)
  | 16 => ("HummingSetModel", "comesMany", "[I", true)
  | 17 => ("HummingSetModel", "comes", "[I", true)
  | 18 => ("HummingSetModel", "wayMany", "[I", true)
  | 19 => ("HummingSetModel", "wayStage", "[I", true)
  | 20 => ("HummingSetModel", "wayTone", "[I", true)
  | 21 => ("HummingSetModel", "wayBack", "[I", true)
  | 22 => ("HummingSetModel", "ears", "[I", true)
  | 23 => ("HummingSetModel", "rates", "[I", true)
  | 24 => ("HummingSetModel", "answerMany", "[I", true)
  | 25 => ("HummingSetModel", "askKind", "[I", true)
  | 26 => ("HummingSetModel", "askOf", "[I", true)
  | 27 => ("HummingSetModel", "askAt", "[I", true)
  | 28 => ("HummingSetModel", "answers", "[I", true)
  | 29 => ("HummingSetModel", "keptMany", "I", false)
  | 30 => ("HummingSetModel", "place", "I", false)
  | 31 => ("HummingSetModel", "told", "[I", true)
  | 32 => ("HummingSetModel", "stateMany", "I", false)
  | 33 => ("HummingSetModel", "states", "[I", true)
  | 34 => ("HummingSetModel", "weights", "[J", true)
  | 35 => ("HummingSetModel", "byAnswer", "[J", true)
  | 36 => ("HummingSetModel", "least", "[J", true)
  | _ => ("HummingSetModel", "nexts", "[I", true)
def zF12 : Nat → FieldType := fun k => match k with
  | 0 => .int
  | 1 => .array .int
  | 2 => .array .int
  | 3 => .array .int
  | 4 => .array .int
  | 5 => .array .int
  | 6 => .array .int
  | 7 => .array .int
  | 8 => .array .int
  | 9 => .array .int
  | 10 => .array .int
  | 11 => .array .int
  | 12 => .array .int
  | 13 => .array .int
  | 14 => .array .int
  | 15 => .array .int
  | 16 => .array .int
  | 17 => .array .int
  | 18 => .array .int
  | 19 => .array .int
  | 20 => .array .int
  | 21 => .array .int
  | 22 => .array .int
  | 23 => .array .int
  | 24 => .array .int
  | 25 => .array .int
  | 26 => .array .int
  | 27 => .array .int
  | 28 => .array .int
  | 29 => .int
  | 30 => .int
  | 31 => .array .int
  | 32 => .int
  | 33 => .array .int
  | 34 => .array .long
  | 35 => .array .long
  | 36 => .array .long
  | _ => .array .int
def zY12 : Nat → Nat := fun k => match k with
  | 0 => 0
  | 1 => 2
  | 2 => 2
  | 3 => 2
  | 4 => 2
  | 5 => 2
  | 6 => 2
  | 7 => 2
  | 8 => 2
  | 9 => 2
  | 10 => 2
  | 11 => 2
  | 12 => 2
  | 13 => 2
  | 14 => 2
  | 15 => 2
  | 16 => 2
  | 17 => 2
  | 18 => 2
  | 19 => 2
  | 20 => 2
  | 21 => 2
  | 22 => 2
  | 23 => 2
  | 24 => 2
  | 25 => 2
  | 26 => 2
  | 27 => 2
  | 28 => 2
  | 29 => 0
  | 30 => 0
  | 31 => 2
  | 32 => 0
  | 33 => 2
  | 34 => 2
  | 35 => 2
  | 36 => 2
  | _ => 2
theorem zn12 : ∀ a, a < 38 → ∀ b, b < 38 → a ≠ b → (zT12 a).2.1 ≠ (zT12 b).2.1 := by decide +kernel
theorem zf12 : ∀ k, k < 38 → parseFieldDescriptor (zT12 k).2.2.1 = some (zF12 k) := by decide +kernel
theorem zl12 : ∀ w ∈ u_ws zC12 zT12 38, w ∈ zWS := by
  intro w hw
  obtain ⟨k, hk, rfl⟩ := List.mem_map.mp hw
  have hk := List.mem_range.mp hk
  match k, hk with
  | 0, _ => exact zmW 813 (by decide +kernel) rfl
  | 1, _ => exact zmW 815 (by decide +kernel) rfl
  | 2, _ => exact zmW 817 (by decide +kernel) rfl
  | 3, _ => exact zmW 819 (by decide +kernel) rfl
  | 4, _ => exact zmW 821 (by decide +kernel) rfl
  | 5, _ => exact zmW 823 (by decide +kernel) rfl
  | 6, _ => exact zmW 825 (by decide +kernel) rfl
  | 7, _ => exact zmW 827 (by decide +kernel) rfl
  | 8, _ => exact zmW 829 (by decide +kernel) rfl
  | 9, _ => exact zmW 831 (by decide +kernel) rfl
  | 10, _ => exact zmW 833 (by decide +kernel) rfl
  | 11, _ => exact zmW 835 (by decide +kernel) rfl
  | 12, _ => exact zmW 837 (by decide +kernel) rfl
  | 13, _ => exact zmW 839 (by decide +kernel) rfl
  | 14, _ => exact zmW 841 (by decide +kernel) rfl
  | 15, _ => exact zmW 843 (by decide +kernel) rfl
  | 16, _ => exact zmW 845 (by decide +kernel) rfl
  | 17, _ => exact zmW 847 (by decide +kernel) rfl
  | 18, _ => exact zmW 849 (by decide +kernel) rfl
  | 19, _ => exact zmW 851 (by decide +kernel) rfl
  | 20, _ => exact zmW 853 (by decide +kernel) rfl
  | 21, _ => exact zmW 855 (by decide +kernel) rfl
  | 22, _ => exact zmW 857 (by decide +kernel) rfl
  | 23, _ => exact zmW 859 (by decide +kernel) rfl
  | 24, _ => exact zmW 861 (by decide +kernel) rfl
  | 25, _ => exact zmW 863 (by decide +kernel) rfl
  | 26, _ => exact zmW 865 (by decide +kernel) rfl
  | 27, _ => exact zmW 867 (by decide +kernel) rfl
  | 28, _ => exact zmW 869 (by decide +kernel) rfl
  | 29, _ => exact zmW 871 (by decide +kernel) rfl
  | 30, _ => exact zmW 873 (by decide +kernel) rfl
  | 31, _ => exact zmW 875 (by decide +kernel) rfl
  | 32, _ => exact zmW 877 (by decide +kernel) rfl
  | 33, _ => exact zmW 879 (by decide +kernel) rfl
  | 34, _ => exact zmW 881 (by decide +kernel) rfl
  | 35, _ => exact zmW 883 (by decide +kernel) rfl
  | 36, _ => exact zmW 885 (by decide +kernel) rfl
  | 37, _ => exact zmW 887 (by decide +kernel) rfl
  | n + 38, h => exact absurd h (by omega)
abbrev zcls : List vw_C := [(zC0, zT0, 5), (zC1, zT1, 2), (zC2, zT2, 4), (zC3, zT3, 9), (zC4, zT4, 3), (zC5, zT5, 2), (zC6, zT6, 5), (zC7, zT7, 3), (zC8, zT8, 2), (zC9, zT9, 3), (zC10, zT10, 10), (zC11, zT11, 12), (zC12, zT12, 38)]
def zN : Nat → Nat := fun k => match k with
  | 0 => 5
  | 1 => 2
  | 2 => 4
  | 3 => 9
  | 4 => 3
  | 5 => 2
  | 6 => 5
  | 7 => 3
  | 8 => 2
  | 9 => 3
  | 10 => 10
  | 11 => 12
  | _ => 38
def zty : Nat → Nat → Nat := fun k => match k with
  | 0 => zY0
  | 1 => zY1
  | 2 => zY2
  | 3 => zY3
  | 4 => zY4
  | 5 => zY5
  | 6 => zY6
  | 7 => zY7
  | 8 => zY8
  | 9 => zY9
  | 10 => zY10
  | 11 => zY11
  | _ => zY12
/-- what a class's rows give -/
def zOK (ci : Nat) (C : String) (T : u_T) (F : Nat → FieldType) : Prop := ci < 13 ∧ zcls[ci]? = some (C, T, zN ci) ∧ (∀ w ∈ u_ws C T (zN ci), w ∈ zWS) ∧ (∀ a, a < zN ci → ∀ b, b < zN ci → a ≠ b → (T a).2.1 ≠ (T b).2.1) ∧ ∀ k, k < zN ci → parseFieldDescriptor (T k).2.2.1 = some (F k)
theorem zo0 : zOK 0 zC0 zT0 zF0 := ⟨by decide, rfl, zl0, zn0, zf0⟩
theorem zo1 : zOK 1 zC1 zT1 zF1 := ⟨by decide, rfl, zl1, zn1, zf1⟩
theorem zo2 : zOK 2 zC2 zT2 zF2 := ⟨by decide, rfl, zl2, zn2, zf2⟩
theorem zo3 : zOK 3 zC3 zT3 zF3 := ⟨by decide, rfl, zl3, zn3, zf3⟩
theorem zo4 : zOK 4 zC4 zT4 zF4 := ⟨by decide, rfl, zl4, zn4, zf4⟩
theorem zo5 : zOK 5 zC5 zT5 zF5 := ⟨by decide, rfl, zl5, zn5, zf5⟩
theorem zo6 : zOK 6 zC6 zT6 zF6 := ⟨by decide, rfl, zl6, zn6, zf6⟩
theorem zo7 : zOK 7 zC7 zT7 zF7 := ⟨by decide, rfl, zl7, zn7, zf7⟩
theorem zo8 : zOK 8 zC8 zT8 zF8 := ⟨by decide, rfl, zl8, zn8, zf8⟩
theorem zo9 : zOK 9 zC9 zT9 zF9 := ⟨by decide, rfl, zl9, zn9, zf9⟩
theorem zo10 : zOK 10 zC10 zT10 zF10 := ⟨by decide, rfl, zl10, zn10, zf10⟩
theorem zo11 : zOK 11 zC11 zT11 zF11 := ⟨by decide, rfl, zl11, zn11, zf11⟩
theorem zo12 : zOK 12 zC12 zT12 zF12 := ⟨by decide, rfl, zl12, zn12, zf12⟩
end
section
/-! ===== the world of names, and what stands at a place of a method ===== -/
def zcv (ad : Nat → Nat) : Value → Value
  | .ref r => .ref (ad r)
  | v => v
def zre (ad : Nat → Nat) : Nat → Option Nat
  | 0 => none
  | r + 1 => some (ad r)
def zfv (ad : Nat → Nat) (ty : Nat) (I : ZMi) (L : ZMl) (R : ZMr) (a k : Nat) : Value := match ty with
  | 0 => .int (I a k)
  | 1 => .long (L a k)
  | _ => va_rf (zre ad (R a k))
def zfs (ad : Nat → Nat) (ci : Nat) (I : ZMi) (L : ZMl) (R : ZMr) (a : Nat) : List Value := (List.range (zN ci)).map (fun k => zfv ad (zty ci k) I L R a k)
def zcel (cA : Nat → ClassId) (ad : Nat → Nat) (K : ZKh) (I : ZMi) (L : ZMl) (R : ZMr) (a : Nat) : va_E :=
  if (K a).1 < 13 then .inr ((K a).1, zfs ad (K a).1 I L R a)
  else if (K a).1 = 21 then .inl (cA 21, (K a).2, .inr (.inl (L a)))
  else if (K a).1 < 24 then .inl (cA (K a).1, (K a).2, .inl (I a))
  else .inl (cA (K a).1, (K a).2, .inr (.inr (.inr (.inr (fun j => zre ad (R a j))))))
def zwl (cA : Nat → ClassId) (ad : Nat → Nat) (K : ZKh) (n : Nat) (I : ZMi) (L : ZMl) (R : ZMr) : va_W := (List.range n).map (fun i => (ad (i + 2), zcel cA ad K I L R (i + 2)))
theorem zwl_at {cA : Nat → ClassId} {ad : Nat → Nat} {K : ZKh} {n : Nat} {I : ZMi} {L : ZMl} {R : ZMr} {a : Nat} (h : 2 ≤ a ∧ a < n + 2) : (zwl cA ad K n I L R)[a - 2]? = some (ad a, zcel cA ad K I L R a) := by
  have h1 : a - 2 < n := by omega
  have h2 : a - 2 + 2 = a := by omega
  simp [zwl, List.getElem?_map, List.getElem?_range h1, h2]
theorem zwl_set {cA : Nat → ClassId} {ad : Nat → Nat} {K : ZKh} {n : Nat} {I I' : ZMi} {L L' : ZMl} {R R' : ZMr} {a : Nat} {x : va_E} (h : 2 ≤ a ∧ a < n + 2) (hx : x = zcel cA ad K I' L' R' a) (ho : ∀ b, b ≠ a → zcel cA ad K I' L' R' b = zcel cA ad K I L R b) : (zwl cA ad K n I L R).set (a - 2) (ad a, x) = zwl cA ad K n I' L' R' := by
  apply List.ext_getElem?
  intro j
  by_cases hj : j = a - 2
  · subst hj
    rw [List.getElem?_set_self (by simp [zwl]; omega), zwl_at h, hx]
  · rw [List.getElem?_set_ne (Ne.symm hj)]
    simp only [zwl, List.getElem?_map]
    by_cases hl : j < n
    · rw [List.getElem?_range hl]
      simp only [Option.map_some]
      rw [ho (j + 2) (by omega)]
    · rw [List.getElem?_eq_none (by simp; omega)]
      rfl
theorem zfs_at {ad : Nat → Nat} {ci : Nat} {I : ZMi} {L : ZMl} {R : ZMr} {a k : Nat} (h : k < zN ci) : (zfs ad ci I L R a)[k]? = some (zfv ad (zty ci k) I L R a k) := by
  simp [zfs, List.getElem?_map, List.getElem?_range h]
theorem zfs_len {ad : Nat → Nat} {ci : Nat} {I : ZMi} {L : ZMl} {R : ZMr} {a : Nat} : (zfs ad ci I L R a).length = zN ci := by simp [zfs]
theorem zfs_set {ad : Nat → Nat} {ci : Nat} {I I' : ZMi} {L L' : ZMl} {R R' : ZMr} {a k : Nat} {v : Value} (h : k < zN ci) (hv : v = zfv ad (zty ci k) I' L' R' a k) (ho : ∀ j, j ≠ k → zfv ad (zty ci j) I' L' R' a j = zfv ad (zty ci j) I L R a j) : (zfs ad ci I L R a).set k v = zfs ad ci I' L' R' a := by
  apply List.ext_getElem?
  intro j
  by_cases hj : j = k
  · subst hj
    rw [List.getElem?_set_self (by rw [zfs_len]; exact h), zfs_at h, hv]
  · rw [List.getElem?_set_ne (Ne.symm hj)]
    simp only [zfs, List.getElem?_map]
    by_cases hl : j < zN ci
    · rw [List.getElem?_range hl]
      simp only [Option.map_some]
      rw [ho j hj]
    · rw [List.getElem?_eq_none (by simp; omega)]
      rfl
def zll (ad : Nat → Nat) : Nat → List Value → List (Nat × Value)
  | _, [] => []
  | k, .null :: r => zll ad (k + 1) r
  | k, v :: r => (k, zcv ad v) :: zll ad (k + 1) r
theorem zll_cons {ad : Nat → Nat} {k : Nat} {v : Value} {r : List Value} (h : v ≠ .null) : zll ad k (v :: r) = (k, zcv ad v) :: zll ad (k + 1) r := by
  cases v <;> first | rfl | exact absurd rfl h
theorem zll_mem {ad : Nat → Nat} {q : Nat × Value} : ∀ {ls : List Value} {k : Nat}, q ∈ zll ad k ls ↔ ∃ (i : Nat) (v : Value), ls[i]? = some v ∧ v ≠ .null ∧ q = (k + i, zcv ad v)
  | [], k => by simp [zll]
  | w :: r, k => by
    have ih := zll_mem (q := q) (ls := r) (k := k + 1) (ad := ad)
    by_cases hw : w = .null
    · subst hw
      show q ∈ zll ad (k + 1) r ↔ _
      rw [ih]
      constructor
      · rintro ⟨i, v, h1, h2, h3⟩
        exact ⟨i + 1, v, by simpa using h1, h2, by rw [h3]; congr 1; omega⟩
      · rintro ⟨i, v, h1, h2, h3⟩
        cases i with
        | zero => simp at h1; exact absurd h1.symm h2
        | succ i => exact ⟨i, v, by simpa using h1, h2, by rw [h3]; congr 1; omega⟩
    · rw [zll_cons hw, List.mem_cons, ih]
      constructor
      · rintro (h | ⟨i, v, h1, h2, h3⟩)
        · exact ⟨0, w, rfl, hw, by simpa using h⟩
        · exact ⟨i + 1, v, by simpa using h1, h2, by rw [h3]; congr 1; omega⟩
      · rintro ⟨i, v, h1, h2, h3⟩
        cases i with
        | zero => simp at h1; subst h1; exact Or.inl (by simpa using h3)
        | succ i => exact Or.inr ⟨i, v, by simpa using h1, h2, by rw [h3]; congr 1; omega⟩
theorem zkl_len (ls : List Value) (i : Nat) : (zkl ls i).length = ls.length := by
  unfold zkl
  split
  · rfl
  · split <;> simp
theorem zst_len (ls : List Value) (i : Nat) (v : Value) : (zst ls i v).length = ls.length := by
  unfold zst
  split <;> simp [zkl_len]
theorem zkl_at {ls : List Value} {i j : Nat} {v : Value} (h : (zkl ls i)[j]? = some v) (hv : v ≠ .null) : ls[j]? = some v ∧ ¬ (j + 1 = i ∧ v.category = 2) := by
  unfold zkl at h
  split at h
  · exact ⟨h, fun q => by omega⟩
  · rename_i i
    have key : ∀ (w : Value), ls[i]? = some w → (ls.set i .null)[j]? = some v → ls[j]? = some v ∧ ¬ (j + 1 = i + 1 ∧ v.category = 2) := by
      intro w hx h
      by_cases hj : j = i
      · subst hj
        rw [List.getElem?_set_self (List.getElem?_eq_some_iff.mp hx).1] at h
        exact absurd (Option.some.inj h).symm hv
      · rw [List.getElem?_set_ne (Ne.symm hj)] at h
        exact ⟨h, fun q => by omega⟩
    split at h
    · rename_i x hx
      exact key _ hx h
    · rename_i x hx
      exact key _ hx h
    · rename_i hx hx2
      refine ⟨h, fun q => ?_⟩
      obtain ⟨q1, q2⟩ := q
      have e : j = i := by omega
      subst e
      cases v with
      | long x => exact hx x h
      | double x => exact hx2 x h
      | _ => simp [Value.category] at q2
theorem zst_has1 {ad : Nat → Nat} {lsA : Array Slot} {nL i : Nat} {ls : List Value} {v : Value} (hi : i < nL) (hlen : ls.length = nL) (hc : v.category = 1) (hnl : ∀ x, v ≠ .long x)
    (h : lv_has lsA nL ((i, zcv ad v) :: (zll ad 0 ls).filter (fun q => !(q.1 == i) && !(q.1 + 1 == i && q.2.category == 2)))) : lv_has lsA nL (zll ad 0 (zst ls i v)) := by
  refine ⟨h.1, h.2.1, fun q hq => h.2.2 q ?_⟩
  obtain ⟨j, w, h1, h2, h3⟩ := zll_mem.mp hq
  have e : zst ls i v = (zkl ls i).set i v := by
    unfold zst
    split
    · rename_i x; exact absurd rfl (hnl x)
    · rfl
  rw [e] at h1
  by_cases hj : j = i
  · subst hj
    rw [List.getElem?_set_self (by rw [zkl_len]; omega)] at h1
    cases h1
    rw [h3]
    simp
  · rw [List.getElem?_set_ne (Ne.symm hj)] at h1
    obtain ⟨h4, h5⟩ := zkl_at h1 h2
    refine List.mem_cons_of_mem _ (List.mem_filter.mpr ⟨zll_mem.mpr ⟨j, w, h4, h2, h3⟩, ?_⟩)
    rw [h3]
    have hj0 : ¬ (0 + j == i) = true := by simpa using hj
    simp only [Bool.and_eq_true, Bool.not_eq_true', Bool.not_eq_true] at *
    refine ⟨by simpa using hj, ?_⟩
    by_cases hji : j + 1 = i
    · have h6 : ¬ w.category = 2 := fun q => h5 ⟨hji, q⟩
      have h7 : (zcv ad w).category = w.category := by cases w <;> rfl
      simp [h7, h6]
    · simp [hji]
end
section
/-! ===== soundness, instruction by instruction ===== -/
theorem zst_has2 {ad : Nat → Nat} {lsA : Array Slot} {nL i : Nat} {ls : List Value} {x : Int64} (hi : i + 1 < nL) (hlen : ls.length = nL)
    (h : lv_has lsA nL ((i, Value.long x) :: (zll ad 0 ls).filter (fun q => !(q.1 == i) && (!(q.1 == i + 1) && !(q.1 + 1 == i && q.2.category == 2))))) : lv_has lsA nL (zll ad 0 (zst ls i (.long x))) := by
  refine ⟨h.1, h.2.1, fun q hq => h.2.2 q ?_⟩
  obtain ⟨j, w, h1, h2, h3⟩ := zll_mem.mp hq
  have e : zst ls i (.long x) = ((zkl ls i).set i (.long x)).set (i + 1) .null := rfl
  rw [e] at h1
  by_cases hj1 : j = i + 1
  · subst hj1
    rw [List.getElem?_set_self (by rw [List.length_set, zkl_len]; omega)] at h1
    cases h1
    exact absurd rfl h2
  · rw [List.getElem?_set_ne (Ne.symm hj1)] at h1
    by_cases hj : j = i
    · subst hj
      rw [List.getElem?_set_self (by rw [zkl_len]; omega)] at h1
      cases h1
      rw [h3]
      simp [zcv]
    · rw [List.getElem?_set_ne (Ne.symm hj)] at h1
      obtain ⟨h4, h5⟩ := zkl_at h1 h2
      refine List.mem_cons_of_mem _ (List.mem_filter.mpr ⟨zll_mem.mpr ⟨j, w, h4, h2, h3⟩, ?_⟩)
      rw [h3]
      simp only [Bool.and_eq_true, Bool.not_eq_true', Bool.not_eq_true] at *
      refine ⟨by simpa using hj, by simpa using hj1, ?_⟩
      by_cases hji : j + 1 = i
      · have h6 : ¬ w.category = 2 := fun q => h5 ⟨hji, q⟩
        have h7 : (zcv ad w).category = w.category := by cases w <;> rfl
        simp [h7, h6]
      · simp [hji]
theorem zll_get {ad : Nat → Nat} {lsA : Array Slot} {nL i : Nat} {ls : List Value} {v : Value} (h : lv_has lsA nL (zll ad 0 ls)) (hv : ls[i]? = some v) (hn : v ≠ .null) : lsA[i]? = some (.val (zcv ad v)) := by
  have := h.2.2 (0 + i, zcv ad v) (zll_mem.mpr ⟨i, v, hv, hn, rfl⟩)
  simpa using this
/-- the read-only arrays are as they were -/
def zext (K : ZKh) (E I : ZMi) : Prop := ∀ a, (K a).1 = 30 → ∀ j, I a j = E a j
def zAt (p : Program) (l : Launch) (e : Env) (Rm : Room) (s : State) (m : MethodId) (args : Array Value) (below : List Frame) (meth : Method) (c : Code) (cells slots : Nat) (Z : State → Prop) (dC : Nat → ClassId) (dI : Nat → Nat → Nat) (cA : Nat → ClassId) (ad : Nat → Nat) (K : ZKh) (n nL : Nat) (E : ZMi) (A : Nat → Prop) (pc : Nat) (ls st : List Value) (I : ZMi) (L : ZMl) (R : ZMr) : Prop :=
  ls.length = nL → zext K E I → ∀ (H : Heap) (locs : List Loc) (lsA : Array Slot), lv_has lsA nL (zll ad 0 ls) → va_P (dC, dI) zcls (zwl cA ad K n I L R) H → va_D A (zwl cA ad K n I L R) → va_S A s.heap H locs → W p l e Rm s m args below meth c H locs cells slots Z (F0 m pc lsA (st.map (zcv ad)))
section ZS
variable {p : Program} {l : Launch} {e : Env} {Rm : Room} {s : State} {m : MethodId} {args : Array Value} {below : List Frame} {meth : Method} {c : Code} {cells slots : Nat} {Z : State → Prop}
variable {cc : ByteArray} {pc : Nat} {dC : Nat → ClassId} {dI : Nat → Nat → Nat} {cA : Nat → ClassId} {ad : Nat → Nat} {K : ZKh} {n nL : Nat} {E : ZMi} {A : Nat → Prop} {own : String}
variable {nx : ZNx} {rt : ZRt} {cx : ZCx} {ls st : List Value} {I : ZMi} {L : ZMl} {R : ZMr}
theorem sn_iconst (hx : p.tables.exec = Jvm.exec) (hb : c.code = cc) {v : Int32} {k : Int} (hd : decode cc pc = .ok (.iconst k, 1)) (hv : Int32.ofInt k = v)  (hX : ∀ pc ls st I L R, nx pc ls st I L R → zAt p l e Rm s m args below meth c cells slots Z dC dI cA ad K n nL E A pc ls st I L R) (h : z_ic v 1 K pc nx rt cx ls st I L R) : zAt p l e Rm s m args below meth c cells slots Z dC dI cA ad K n nL E A pc ls st I L R := by
  intro hlen hE H locs lsA hl hP hD hS
  exact lv_iconst hx hb hd hv (hX _ _ _ _ _ _ h hlen hE H locs lsA hl hP hD hS)
theorem sn_bipush (hx : p.tables.exec = Jvm.exec) (hb : c.code = cc) {v : Int32} {k : Int} (hd : decode cc pc = .ok (.bipush k, 2)) (hv : (Int8.ofInt k).toInt32 = v)  (hX : ∀ pc ls st I L R, nx pc ls st I L R → zAt p l e Rm s m args below meth c cells slots Z dC dI cA ad K n nL E A pc ls st I L R) (h : z_ic v 2 K pc nx rt cx ls st I L R) : zAt p l e Rm s m args below meth c cells slots Z dC dI cA ad K n nL E A pc ls st I L R := by
  intro hlen hE H locs lsA hl hP hD hS
  exact lv_bipush hx hb hd hv (hX _ _ _ _ _ _ h hlen hE H locs lsA hl hP hD hS)
theorem sn_sipush (hx : p.tables.exec = Jvm.exec) (hb : c.code = cc) {v : Int32} {k : Int} (hd : decode cc pc = .ok (.sipush k, 3)) (hv : (Int16.ofInt k).toInt32 = v)  (hX : ∀ pc ls st I L R, nx pc ls st I L R → zAt p l e Rm s m args below meth c cells slots Z dC dI cA ad K n nL E A pc ls st I L R) (h : z_ic v 3 K pc nx rt cx ls st I L R) : zAt p l e Rm s m args below meth c cells slots Z dC dI cA ad K n nL E A pc ls st I L R := by
  intro hlen hE H locs lsA hl hP hD hS
  exact lv_sipush hx hb hd hv (hX _ _ _ _ _ _ h hlen hE H locs lsA hl hP hD hS)
theorem sn_lconst (hx : p.tables.exec = Jvm.exec) (hb : c.code = cc) {v : Int64} {k : Fin 2} (hd : decode cc pc = .ok (.lconst k, 1)) (hv : Int64.ofNat (k : Nat) = v)  (hX : ∀ pc ls st I L R, nx pc ls st I L R → zAt p l e Rm s m args below meth c cells slots Z dC dI cA ad K n nL E A pc ls st I L R) (h : z_lc v 1 K pc nx rt cx ls st I L R) : zAt p l e Rm s m args below meth c cells slots Z dC dI cA ad K n nL E A pc ls st I L R := by
  intro hlen hE H locs lsA hl hP hD hS
  exact lv_lconst hx hb hd hv (hX _ _ _ _ _ _ h hlen hE H locs lsA hl hP hD hS)
theorem sn_ldc (hx : p.tables.exec = Jvm.exec) (hb : c.code = cc) (hown : s.vm.findClass own = some m.cls) {v : Int32} {idx : Nat} (hc : (Jvm.Cond.constant own idx v).before args s = true) (hd : decode cc pc = .ok (.ldc idx, 2))  (hX : ∀ pc ls st I L R, nx pc ls st I L R → zAt p l e Rm s m args below meth c cells slots Z dC dI cA ad K n nL E A pc ls st I L R) (h : z_ic v 2 K pc nx rt cx ls st I L R) : zAt p l e Rm s m args below meth c cells slots Z dC dI cA ad K n nL E A pc ls st I L R := by
  intro hlen hE H locs lsA hl hP hD hS
  exact lv_ldc hx hb hown hc hd (hX _ _ _ _ _ _ h hlen hE H locs lsA hl hP hD hS)
theorem sn_ldcw (hx : p.tables.exec = Jvm.exec) (hb : c.code = cc) (hown : s.vm.findClass own = some m.cls) {v : Int32} {idx : Nat} (hc : (Jvm.Cond.constant own idx v).before args s = true) (hd : decode cc pc = .ok (.ldc_w idx, 3))  (hX : ∀ pc ls st I L R, nx pc ls st I L R → zAt p l e Rm s m args below meth c cells slots Z dC dI cA ad K n nL E A pc ls st I L R) (h : z_ic v 3 K pc nx rt cx ls st I L R) : zAt p l e Rm s m args below meth c cells slots Z dC dI cA ad K n nL E A pc ls st I L R := by
  intro hlen hE H locs lsA hl hP hD hS
  exact lv_ldcw hx hb hown hc hd (hX _ _ _ _ _ _ h hlen hE H locs lsA hl hP hD hS)
theorem sn_ldc2 (hx : p.tables.exec = Jvm.exec) (hb : c.code = cc) (hown : s.vm.findClass own = some m.cls) {v : Int64} {idx : Nat} (hc : (Jvm.Cond.constantLong own idx v).before args s = true) (hd : decode cc pc = .ok (.ldc2_w idx, 3))  (hX : ∀ pc ls st I L R, nx pc ls st I L R → zAt p l e Rm s m args below meth c cells slots Z dC dI cA ad K n nL E A pc ls st I L R) (h : z_lc v 3 K pc nx rt cx ls st I L R) : zAt p l e Rm s m args below meth c cells slots Z dC dI cA ad K n nL E A pc ls st I L R := by
  intro hlen hE H locs lsA hl hP hD hS
  exact lv_ldc2 hx hb hown hc hd (hX _ _ _ _ _ _ h hlen hE H locs lsA hl hP hD hS)
theorem sn_iload (hx : p.tables.exec = Jvm.exec) (hb : c.code = cc) {i : Nat} (hd : decode cc pc = .ok (.iload i, 2))  (hX : ∀ pc ls st I L R, nx pc ls st I L R → zAt p l e Rm s m args below meth c cells slots Z dC dI cA ad K n nL E A pc ls st I L R) (h : z_il i 2 K pc nx rt cx ls st I L R) : zAt p l e Rm s m args below meth c cells slots Z dC dI cA ad K n nL E A pc ls st I L R := by
  unfold z_il at h
  split at h
  · rename_i x hg
    intro hlen hE H locs lsA hl hP hD hS
    exact lv_iload hx hb hd (zll_get hl hg (by intro q; cases q)) (hX _ _ _ _ _ _ h hlen hE H locs lsA hl hP hD hS)
  · exact h.elim
theorem sn_iload_n (hx : p.tables.exec = Jvm.exec) (hb : c.code = cc) {i : Nat} {k : Fin 4} (hd : decode cc pc = .ok (.iload_n k, 1)) (hk : (k : Nat) = i)  (hX : ∀ pc ls st I L R, nx pc ls st I L R → zAt p l e Rm s m args below meth c cells slots Z dC dI cA ad K n nL E A pc ls st I L R) (h : z_il i 1 K pc nx rt cx ls st I L R) : zAt p l e Rm s m args below meth c cells slots Z dC dI cA ad K n nL E A pc ls st I L R := by
  unfold z_il at h
  split at h
  · rename_i x hg
    intro hlen hE H locs lsA hl hP hD hS
    exact lv_iload_n hx hb hd hk (zll_get hl hg (by intro q; cases q)) (hX _ _ _ _ _ _ h hlen hE H locs lsA hl hP hD hS)
  · exact h.elim
theorem sn_lload (hx : p.tables.exec = Jvm.exec) (hb : c.code = cc) {i : Nat} (hd : decode cc pc = .ok (.lload i, 2))  (hX : ∀ pc ls st I L R, nx pc ls st I L R → zAt p l e Rm s m args below meth c cells slots Z dC dI cA ad K n nL E A pc ls st I L R) (h : z_ll i 2 K pc nx rt cx ls st I L R) : zAt p l e Rm s m args below meth c cells slots Z dC dI cA ad K n nL E A pc ls st I L R := by
  unfold z_ll at h
  split at h
  · rename_i x hg
    intro hlen hE H locs lsA hl hP hD hS
    exact lv_lload hx hb hd (zll_get hl hg (by intro q; cases q)) (hX _ _ _ _ _ _ h hlen hE H locs lsA hl hP hD hS)
  · exact h.elim
theorem sn_lload_n (hx : p.tables.exec = Jvm.exec) (hb : c.code = cc) {i : Nat} {k : Fin 4} (hd : decode cc pc = .ok (.lload_n k, 1)) (hk : (k : Nat) = i)  (hX : ∀ pc ls st I L R, nx pc ls st I L R → zAt p l e Rm s m args below meth c cells slots Z dC dI cA ad K n nL E A pc ls st I L R) (h : z_ll i 1 K pc nx rt cx ls st I L R) : zAt p l e Rm s m args below meth c cells slots Z dC dI cA ad K n nL E A pc ls st I L R := by
  unfold z_ll at h
  split at h
  · rename_i x hg
    intro hlen hE H locs lsA hl hP hD hS
    exact lv_lload_n hx hb hd hk (zll_get hl hg (by intro q; cases q)) (hX _ _ _ _ _ _ h hlen hE H locs lsA hl hP hD hS)
  · exact h.elim
theorem sn_aload (hx : p.tables.exec = Jvm.exec) (hb : c.code = cc) {i : Nat} (hd : decode cc pc = .ok (.aload i, 2))  (hX : ∀ pc ls st I L R, nx pc ls st I L R → zAt p l e Rm s m args below meth c cells slots Z dC dI cA ad K n nL E A pc ls st I L R) (h : z_al i 2 K pc nx rt cx ls st I L R) : zAt p l e Rm s m args below meth c cells slots Z dC dI cA ad K n nL E A pc ls st I L R := by
  unfold z_al at h
  split at h
  · rename_i x hg
    intro hlen hE H locs lsA hl hP hD hS
    exact lv_aload hx hb hd (zll_get hl hg (by intro q; cases q)) (hX _ _ _ _ _ _ h hlen hE H locs lsA hl hP hD hS)
  · exact h.elim
theorem sn_aload_n (hx : p.tables.exec = Jvm.exec) (hb : c.code = cc) {i : Nat} {k : Fin 4} (hd : decode cc pc = .ok (.aload_n k, 1)) (hk : (k : Nat) = i)  (hX : ∀ pc ls st I L R, nx pc ls st I L R → zAt p l e Rm s m args below meth c cells slots Z dC dI cA ad K n nL E A pc ls st I L R) (h : z_al i 1 K pc nx rt cx ls st I L R) : zAt p l e Rm s m args below meth c cells slots Z dC dI cA ad K n nL E A pc ls st I L R := by
  unfold z_al at h
  split at h
  · rename_i x hg
    intro hlen hE H locs lsA hl hP hD hS
    exact lv_aload_n hx hb hd hk (zll_get hl hg (by intro q; cases q)) (hX _ _ _ _ _ _ h hlen hE H locs lsA hl hP hD hS)
  · exact h.elim
theorem sn_istore (hx : p.tables.exec = Jvm.exec) (hb : c.code = cc) {i : Nat} (hd : decode cc pc = .ok (.istore i, 2))  (hX : ∀ pc ls st I L R, nx pc ls st I L R → zAt p l e Rm s m args below meth c cells slots Z dC dI cA ad K n nL E A pc ls st I L R) (h : z_is i 2 K pc nx rt cx ls st I L R) : zAt p l e Rm s m args below meth c cells slots Z dC dI cA ad K n nL E A pc ls st I L R := by
  unfold z_is at h
  split at h
  · intro hlen hE H locs lsA hl hP hD hS
    refine lv_istore hx hb hd hl (by rw [← hlen]; exact h.1) rfl (fun lsB hl2 => ?_)
    exact hX _ _ _ _ _ _ h.2 (by rw [zst_len]; exact hlen) hE H locs lsB (zst_has1 (by rw [← hlen]; exact h.1) hlen rfl (by intro x q; cases q) hl2) hP hD hS
  · exact h.elim
theorem sn_istore_n (hx : p.tables.exec = Jvm.exec) (hb : c.code = cc) {i : Nat} {k : Fin 4} (hd : decode cc pc = .ok (.istore_n k, 1)) (hk : (k : Nat) = i)  (hX : ∀ pc ls st I L R, nx pc ls st I L R → zAt p l e Rm s m args below meth c cells slots Z dC dI cA ad K n nL E A pc ls st I L R) (h : z_is i 1 K pc nx rt cx ls st I L R) : zAt p l e Rm s m args below meth c cells slots Z dC dI cA ad K n nL E A pc ls st I L R := by
  unfold z_is at h
  split at h
  · intro hlen hE H locs lsA hl hP hD hS
    refine lv_istore_n hx hb hd hk hl (by rw [← hlen]; exact h.1) rfl (fun lsB hl2 => ?_)
    exact hX _ _ _ _ _ _ h.2 (by rw [zst_len]; exact hlen) hE H locs lsB (zst_has1 (by rw [← hlen]; exact h.1) hlen rfl (by intro x q; cases q) hl2) hP hD hS
  · exact h.elim
theorem sn_lstore (hx : p.tables.exec = Jvm.exec) (hb : c.code = cc) {i : Nat} (hd : decode cc pc = .ok (.lstore i, 2))  (hX : ∀ pc ls st I L R, nx pc ls st I L R → zAt p l e Rm s m args below meth c cells slots Z dC dI cA ad K n nL E A pc ls st I L R) (h : z_ls i 2 K pc nx rt cx ls st I L R) : zAt p l e Rm s m args below meth c cells slots Z dC dI cA ad K n nL E A pc ls st I L R := by
  unfold z_ls at h
  split at h
  · intro hlen hE H locs lsA hl hP hD hS
    refine lv_lstore hx hb hd hl (by rw [← hlen]; exact h.1) rfl (fun lsB hl2 => ?_)
    exact hX _ _ _ _ _ _ h.2 (by rw [zst_len]; exact hlen) hE H locs lsB (zst_has2 (by rw [← hlen]; exact h.1) hlen hl2) hP hD hS
  · exact h.elim
theorem sn_lstore_n (hx : p.tables.exec = Jvm.exec) (hb : c.code = cc) {i : Nat} {k : Fin 4} (hd : decode cc pc = .ok (.lstore_n k, 1)) (hk : (k : Nat) = i)  (hX : ∀ pc ls st I L R, nx pc ls st I L R → zAt p l e Rm s m args below meth c cells slots Z dC dI cA ad K n nL E A pc ls st I L R) (h : z_ls i 1 K pc nx rt cx ls st I L R) : zAt p l e Rm s m args below meth c cells slots Z dC dI cA ad K n nL E A pc ls st I L R := by
  unfold z_ls at h
  split at h
  · intro hlen hE H locs lsA hl hP hD hS
    refine lv_lstore_n hx hb hd hk hl (by rw [← hlen]; exact h.1) rfl (fun lsB hl2 => ?_)
    exact hX _ _ _ _ _ _ h.2 (by rw [zst_len]; exact hlen) hE H locs lsB (zst_has2 (by rw [← hlen]; exact h.1) hlen hl2) hP hD hS
  · exact h.elim
theorem sn_astore (hx : p.tables.exec = Jvm.exec) (hb : c.code = cc) {i : Nat} (hd : decode cc pc = .ok (.astore i, 2))  (hX : ∀ pc ls st I L R, nx pc ls st I L R → zAt p l e Rm s m args below meth c cells slots Z dC dI cA ad K n nL E A pc ls st I L R) (h : z_as i 2 K pc nx rt cx ls st I L R) : zAt p l e Rm s m args below meth c cells slots Z dC dI cA ad K n nL E A pc ls st I L R := by
  unfold z_as at h
  split at h
  · intro hlen hE H locs lsA hl hP hD hS
    refine lv_astore hx hb hd hl (by rw [← hlen]; exact h.1) rfl (fun lsB hl2 => ?_)
    exact hX _ _ _ _ _ _ h.2 (by rw [zst_len]; exact hlen) hE H locs lsB (zst_has1 (by rw [← hlen]; exact h.1) hlen rfl (by intro x q; cases q) hl2) hP hD hS
  · exact h.elim
theorem sn_astore_n (hx : p.tables.exec = Jvm.exec) (hb : c.code = cc) {i : Nat} {k : Fin 4} (hd : decode cc pc = .ok (.astore_n k, 1)) (hk : (k : Nat) = i)  (hX : ∀ pc ls st I L R, nx pc ls st I L R → zAt p l e Rm s m args below meth c cells slots Z dC dI cA ad K n nL E A pc ls st I L R) (h : z_as i 1 K pc nx rt cx ls st I L R) : zAt p l e Rm s m args below meth c cells slots Z dC dI cA ad K n nL E A pc ls st I L R := by
  unfold z_as at h
  split at h
  · intro hlen hE H locs lsA hl hP hD hS
    refine lv_astore_n hx hb hd hk hl (by rw [← hlen]; exact h.1) rfl (fun lsB hl2 => ?_)
    exact hX _ _ _ _ _ _ h.2 (by rw [zst_len]; exact hlen) hE H locs lsB (zst_has1 (by rw [← hlen]; exact h.1) hlen rfl (by intro x q; cases q) hl2) hP hD hS
  · exact h.elim
theorem sn_iinc (hx : p.tables.exec = Jvm.exec) (hb : c.code = cc) {i : Nat} {d : Int32} {k : Int} (hd : decode cc pc = .ok (.iinc i k, 3)) (hk : Int32.ofInt k = d)  (hX : ∀ pc ls st I L R, nx pc ls st I L R → zAt p l e Rm s m args below meth c cells slots Z dC dI cA ad K n nL E A pc ls st I L R) (h : z_inc i d K pc nx rt cx ls st I L R) : zAt p l e Rm s m args below meth c cells slots Z dC dI cA ad K n nL E A pc ls st I L R := by
  unfold z_inc at h
  split at h
  · rename_i x hg
    obtain ⟨y, hy, h⟩ := h
    intro hlen hE H locs lsA hl hP hD hS
    obtain ⟨q, hq⟩ := List.getElem?_of_mem (zll_mem.mpr ⟨i, .int x, hg, (by intro q; cases q), rfl⟩ : (0 + i, zcv ad (.int x)) ∈ zll ad 0 ls)
    have hi : i < nL := by rw [← hlen]; exact (List.getElem?_eq_some_iff.mp hg).1
    rw [Nat.zero_add] at hq
    refine lv_iinc (v := y) hx hb hd hl hq (by rw [hk]; exact hy) hi rfl (fun lsB hl2 => ?_)
    exact hX _ _ _ _ _ _ h (by rw [zst_len]; exact hlen) hE H locs lsB (zst_has1 hi hlen rfl (by intro x q; cases q) hl2) hP hD hS
  · exact h.elim
theorem sn_iadd (hx : p.tables.exec = Jvm.exec) (hb : c.code = cc) (hd : decode cc pc = .ok (.iadd, 1))  (hX : ∀ pc ls st I L R, nx pc ls st I L R → zAt p l e Rm s m args below meth c cells slots Z dC dI cA ad K n nL E A pc ls st I L R) (h : z_iadd K pc nx rt cx ls st I L R) : zAt p l e Rm s m args below meth c cells slots Z dC dI cA ad K n nL E A pc ls st I L R := by
  unfold z_iadd at h
  split at h
  · intro hlen hE H locs lsA hl hP hD hS
    exact lv_iadd hx hb hd (hX _ _ _ _ _ _ h hlen hE H locs lsA hl hP hD hS)
  · exact h.elim
theorem sn_isub (hx : p.tables.exec = Jvm.exec) (hb : c.code = cc) (hd : decode cc pc = .ok (.isub, 1))  (hX : ∀ pc ls st I L R, nx pc ls st I L R → zAt p l e Rm s m args below meth c cells slots Z dC dI cA ad K n nL E A pc ls st I L R) (h : z_isub K pc nx rt cx ls st I L R) : zAt p l e Rm s m args below meth c cells slots Z dC dI cA ad K n nL E A pc ls st I L R := by
  unfold z_isub at h
  split at h
  · intro hlen hE H locs lsA hl hP hD hS
    exact lv_isub hx hb hd (hX _ _ _ _ _ _ h hlen hE H locs lsA hl hP hD hS)
  · exact h.elim
theorem sn_imul (hx : p.tables.exec = Jvm.exec) (hb : c.code = cc) (hd : decode cc pc = .ok (.imul, 1))  (hX : ∀ pc ls st I L R, nx pc ls st I L R → zAt p l e Rm s m args below meth c cells slots Z dC dI cA ad K n nL E A pc ls st I L R) (h : z_imul K pc nx rt cx ls st I L R) : zAt p l e Rm s m args below meth c cells slots Z dC dI cA ad K n nL E A pc ls st I L R := by
  unfold z_imul at h
  split at h
  · intro hlen hE H locs lsA hl hP hD hS
    exact lv_imul hx hb hd (hX _ _ _ _ _ _ h hlen hE H locs lsA hl hP hD hS)
  · exact h.elim
theorem sn_iand (hx : p.tables.exec = Jvm.exec) (hb : c.code = cc) (hd : decode cc pc = .ok (.iand, 1))  (hX : ∀ pc ls st I L R, nx pc ls st I L R → zAt p l e Rm s m args below meth c cells slots Z dC dI cA ad K n nL E A pc ls st I L R) (h : z_iand K pc nx rt cx ls st I L R) : zAt p l e Rm s m args below meth c cells slots Z dC dI cA ad K n nL E A pc ls st I L R := by
  unfold z_iand at h
  split at h
  · intro hlen hE H locs lsA hl hP hD hS
    exact lv_iand hx hb hd (hX _ _ _ _ _ _ h hlen hE H locs lsA hl hP hD hS)
  · exact h.elim
theorem sn_ior (hx : p.tables.exec = Jvm.exec) (hb : c.code = cc) (hd : decode cc pc = .ok (.ior, 1))  (hX : ∀ pc ls st I L R, nx pc ls st I L R → zAt p l e Rm s m args below meth c cells slots Z dC dI cA ad K n nL E A pc ls st I L R) (h : z_ior K pc nx rt cx ls st I L R) : zAt p l e Rm s m args below meth c cells slots Z dC dI cA ad K n nL E A pc ls st I L R := by
  unfold z_ior at h
  split at h
  · intro hlen hE H locs lsA hl hP hD hS
    exact lv_ior hx hb hd (hX _ _ _ _ _ _ h hlen hE H locs lsA hl hP hD hS)
  · exact h.elim
theorem sn_ixor (hx : p.tables.exec = Jvm.exec) (hb : c.code = cc) (hd : decode cc pc = .ok (.ixor, 1))  (hX : ∀ pc ls st I L R, nx pc ls st I L R → zAt p l e Rm s m args below meth c cells slots Z dC dI cA ad K n nL E A pc ls st I L R) (h : z_ixor K pc nx rt cx ls st I L R) : zAt p l e Rm s m args below meth c cells slots Z dC dI cA ad K n nL E A pc ls st I L R := by
  unfold z_ixor at h
  split at h
  · intro hlen hE H locs lsA hl hP hD hS
    exact lv_ixor hx hb hd (hX _ _ _ _ _ _ h hlen hE H locs lsA hl hP hD hS)
  · exact h.elim
theorem sn_ineg (hx : p.tables.exec = Jvm.exec) (hb : c.code = cc) (hd : decode cc pc = .ok (.ineg, 1))  (hX : ∀ pc ls st I L R, nx pc ls st I L R → zAt p l e Rm s m args below meth c cells slots Z dC dI cA ad K n nL E A pc ls st I L R) (h : z_ineg K pc nx rt cx ls st I L R) : zAt p l e Rm s m args below meth c cells slots Z dC dI cA ad K n nL E A pc ls st I L R := by
  unfold z_ineg at h
  split at h
  · intro hlen hE H locs lsA hl hP hD hS
    exact lv_ineg hx hb hd (hX _ _ _ _ _ _ h hlen hE H locs lsA hl hP hD hS)
  · exact h.elim
theorem sn_ishl (hx : p.tables.exec = Jvm.exec) (hb : c.code = cc) (hd : decode cc pc = .ok (.ishl, 1))  (hX : ∀ pc ls st I L R, nx pc ls st I L R → zAt p l e Rm s m args below meth c cells slots Z dC dI cA ad K n nL E A pc ls st I L R) (h : z_ishl K pc nx rt cx ls st I L R) : zAt p l e Rm s m args below meth c cells slots Z dC dI cA ad K n nL E A pc ls st I L R := by
  unfold z_ishl at h
  split at h
  · intro hlen hE H locs lsA hl hP hD hS
    exact lv_ishl hx hb hd (hX _ _ _ _ _ _ h hlen hE H locs lsA hl hP hD hS)
  · exact h.elim
theorem sn_ishr (hx : p.tables.exec = Jvm.exec) (hb : c.code = cc) (hd : decode cc pc = .ok (.ishr, 1))  (hX : ∀ pc ls st I L R, nx pc ls st I L R → zAt p l e Rm s m args below meth c cells slots Z dC dI cA ad K n nL E A pc ls st I L R) (h : z_ishr K pc nx rt cx ls st I L R) : zAt p l e Rm s m args below meth c cells slots Z dC dI cA ad K n nL E A pc ls st I L R := by
  unfold z_ishr at h
  split at h
  · intro hlen hE H locs lsA hl hP hD hS
    exact lv_ishr hx hb hd (hX _ _ _ _ _ _ h hlen hE H locs lsA hl hP hD hS)
  · exact h.elim
theorem sn_ladd (hx : p.tables.exec = Jvm.exec) (hb : c.code = cc) (hd : decode cc pc = .ok (.ladd, 1))  (hX : ∀ pc ls st I L R, nx pc ls st I L R → zAt p l e Rm s m args below meth c cells slots Z dC dI cA ad K n nL E A pc ls st I L R) (h : z_ladd K pc nx rt cx ls st I L R) : zAt p l e Rm s m args below meth c cells slots Z dC dI cA ad K n nL E A pc ls st I L R := by
  unfold z_ladd at h
  split at h
  · intro hlen hE H locs lsA hl hP hD hS
    exact lv_ladd hx hb hd (hX _ _ _ _ _ _ h hlen hE H locs lsA hl hP hD hS)
  · exact h.elim
theorem sn_lsub (hx : p.tables.exec = Jvm.exec) (hb : c.code = cc) (hd : decode cc pc = .ok (.lsub, 1))  (hX : ∀ pc ls st I L R, nx pc ls st I L R → zAt p l e Rm s m args below meth c cells slots Z dC dI cA ad K n nL E A pc ls st I L R) (h : z_lsub K pc nx rt cx ls st I L R) : zAt p l e Rm s m args below meth c cells slots Z dC dI cA ad K n nL E A pc ls st I L R := by
  unfold z_lsub at h
  split at h
  · intro hlen hE H locs lsA hl hP hD hS
    exact lv_lsub hx hb hd (hX _ _ _ _ _ _ h hlen hE H locs lsA hl hP hD hS)
  · exact h.elim
theorem sn_lmul (hx : p.tables.exec = Jvm.exec) (hb : c.code = cc) (hd : decode cc pc = .ok (.lmul, 1))  (hX : ∀ pc ls st I L R, nx pc ls st I L R → zAt p l e Rm s m args below meth c cells slots Z dC dI cA ad K n nL E A pc ls st I L R) (h : z_lmul K pc nx rt cx ls st I L R) : zAt p l e Rm s m args below meth c cells slots Z dC dI cA ad K n nL E A pc ls st I L R := by
  unfold z_lmul at h
  split at h
  · intro hlen hE H locs lsA hl hP hD hS
    exact lv_lmul hx hb hd (hX _ _ _ _ _ _ h hlen hE H locs lsA hl hP hD hS)
  · exact h.elim
theorem sn_land (hx : p.tables.exec = Jvm.exec) (hb : c.code = cc) (hd : decode cc pc = .ok (.land, 1))  (hX : ∀ pc ls st I L R, nx pc ls st I L R → zAt p l e Rm s m args below meth c cells slots Z dC dI cA ad K n nL E A pc ls st I L R) (h : z_land K pc nx rt cx ls st I L R) : zAt p l e Rm s m args below meth c cells slots Z dC dI cA ad K n nL E A pc ls st I L R := by
  unfold z_land at h
  split at h
  · intro hlen hE H locs lsA hl hP hD hS
    exact lv_land hx hb hd (hX _ _ _ _ _ _ h hlen hE H locs lsA hl hP hD hS)
  · exact h.elim
theorem sn_lor (hx : p.tables.exec = Jvm.exec) (hb : c.code = cc) (hd : decode cc pc = .ok (.lor, 1))  (hX : ∀ pc ls st I L R, nx pc ls st I L R → zAt p l e Rm s m args below meth c cells slots Z dC dI cA ad K n nL E A pc ls st I L R) (h : z_lor K pc nx rt cx ls st I L R) : zAt p l e Rm s m args below meth c cells slots Z dC dI cA ad K n nL E A pc ls st I L R := by
  unfold z_lor at h
  split at h
  · intro hlen hE H locs lsA hl hP hD hS
    exact lv_lor hx hb hd (hX _ _ _ _ _ _ h hlen hE H locs lsA hl hP hD hS)
  · exact h.elim
theorem sn_iushr (hx : p.tables.exec = Jvm.exec) (hb : c.code = cc) (hd : decode cc pc = .ok (.iushr, 1))  (hX : ∀ pc ls st I L R, nx pc ls st I L R → zAt p l e Rm s m args below meth c cells slots Z dC dI cA ad K n nL E A pc ls st I L R) (h : z_iushr K pc nx rt cx ls st I L R) : zAt p l e Rm s m args below meth c cells slots Z dC dI cA ad K n nL E A pc ls st I L R := by
  unfold z_iushr at h
  split at h
  · intro hlen hE H locs lsA hl hP hD hS
    exact lv_iushr hx hb hd rfl (hX _ _ _ _ _ _ h hlen hE H locs lsA hl hP hD hS)
  · exact h.elim
theorem sn_lshl (hx : p.tables.exec = Jvm.exec) (hb : c.code = cc) (hd : decode cc pc = .ok (.lshl, 1))  (hX : ∀ pc ls st I L R, nx pc ls st I L R → zAt p l e Rm s m args below meth c cells slots Z dC dI cA ad K n nL E A pc ls st I L R) (h : z_lshl K pc nx rt cx ls st I L R) : zAt p l e Rm s m args below meth c cells slots Z dC dI cA ad K n nL E A pc ls st I L R := by
  unfold z_lshl at h
  split at h
  · intro hlen hE H locs lsA hl hP hD hS
    exact lv_lshl hx hb hd rfl (hX _ _ _ _ _ _ h hlen hE H locs lsA hl hP hD hS)
  · exact h.elim
theorem sn_lshr (hx : p.tables.exec = Jvm.exec) (hb : c.code = cc) (hd : decode cc pc = .ok (.lshr, 1))  (hX : ∀ pc ls st I L R, nx pc ls st I L R → zAt p l e Rm s m args below meth c cells slots Z dC dI cA ad K n nL E A pc ls st I L R) (h : z_lshr K pc nx rt cx ls st I L R) : zAt p l e Rm s m args below meth c cells slots Z dC dI cA ad K n nL E A pc ls st I L R := by
  unfold z_lshr at h
  split at h
  · intro hlen hE H locs lsA hl hP hD hS
    exact lv_lshr hx hb hd rfl (hX _ _ _ _ _ _ h hlen hE H locs lsA hl hP hD hS)
  · exact h.elim
theorem sn_lushr (hx : p.tables.exec = Jvm.exec) (hb : c.code = cc) (hd : decode cc pc = .ok (.lushr, 1))  (hX : ∀ pc ls st I L R, nx pc ls st I L R → zAt p l e Rm s m args below meth c cells slots Z dC dI cA ad K n nL E A pc ls st I L R) (h : z_lushr K pc nx rt cx ls st I L R) : zAt p l e Rm s m args below meth c cells slots Z dC dI cA ad K n nL E A pc ls st I L R := by
  unfold z_lushr at h
  split at h
  · intro hlen hE H locs lsA hl hP hD hS
    exact lv_lushr hx hb hd rfl (hX _ _ _ _ _ _ h hlen hE H locs lsA hl hP hD hS)
  · exact h.elim
theorem sn_i2l (hx : p.tables.exec = Jvm.exec) (hb : c.code = cc) (hd : decode cc pc = .ok (.i2l, 1))  (hX : ∀ pc ls st I L R, nx pc ls st I L R → zAt p l e Rm s m args below meth c cells slots Z dC dI cA ad K n nL E A pc ls st I L R) (h : z_i2l K pc nx rt cx ls st I L R) : zAt p l e Rm s m args below meth c cells slots Z dC dI cA ad K n nL E A pc ls st I L R := by
  unfold z_i2l at h
  split at h
  · intro hlen hE H locs lsA hl hP hD hS
    exact lv_i2l hx hb hd rfl (hX _ _ _ _ _ _ h hlen hE H locs lsA hl hP hD hS)
  · exact h.elim
theorem sn_l2i (hx : p.tables.exec = Jvm.exec) (hb : c.code = cc) (hd : decode cc pc = .ok (.l2i, 1))  (hX : ∀ pc ls st I L R, nx pc ls st I L R → zAt p l e Rm s m args below meth c cells slots Z dC dI cA ad K n nL E A pc ls st I L R) (h : z_l2i K pc nx rt cx ls st I L R) : zAt p l e Rm s m args below meth c cells slots Z dC dI cA ad K n nL E A pc ls st I L R := by
  unfold z_l2i at h
  split at h
  · intro hlen hE H locs lsA hl hP hD hS
    exact lv_l2i hx hb hd rfl (hX _ _ _ _ _ _ h hlen hE H locs lsA hl hP hD hS)
  · exact h.elim
theorem sn_i2b (hx : p.tables.exec = Jvm.exec) (hb : c.code = cc) (hd : decode cc pc = .ok (.i2b, 1))  (hX : ∀ pc ls st I L R, nx pc ls st I L R → zAt p l e Rm s m args below meth c cells slots Z dC dI cA ad K n nL E A pc ls st I L R) (h : z_i2b K pc nx rt cx ls st I L R) : zAt p l e Rm s m args below meth c cells slots Z dC dI cA ad K n nL E A pc ls st I L R := by
  unfold z_i2b at h
  split at h
  · intro hlen hE H locs lsA hl hP hD hS
    exact lv_i2b hx hb hd rfl (hX _ _ _ _ _ _ h hlen hE H locs lsA hl hP hD hS)
  · exact h.elim
theorem sn_idiv (hx : p.tables.exec = Jvm.exec) (hb : c.code = cc) (hd : decode cc pc = .ok (.idiv, 1))  (hX : ∀ pc ls st I L R, nx pc ls st I L R → zAt p l e Rm s m args below meth c cells slots Z dC dI cA ad K n nL E A pc ls st I L R) (h : z_idiv K pc nx rt cx ls st I L R) : zAt p l e Rm s m args below meth c cells slots Z dC dI cA ad K n nL E A pc ls st I L R := by
  unfold z_idiv at h
  split at h
  · intro hlen hE H locs lsA hl hP hD hS
    exact lv_idiv hx hb hd h.1 (hX _ _ _ _ _ _ h.2 hlen hE H locs lsA hl hP hD hS)
  · exact h.elim
theorem sn_irem (hx : p.tables.exec = Jvm.exec) (hb : c.code = cc) (hd : decode cc pc = .ok (.irem, 1))  (hX : ∀ pc ls st I L R, nx pc ls st I L R → zAt p l e Rm s m args below meth c cells slots Z dC dI cA ad K n nL E A pc ls st I L R) (h : z_irem K pc nx rt cx ls st I L R) : zAt p l e Rm s m args below meth c cells slots Z dC dI cA ad K n nL E A pc ls st I L R := by
  unfold z_irem at h
  split at h
  · intro hlen hE H locs lsA hl hP hD hS
    exact lv_irem hx hb hd h.1 (hX _ _ _ _ _ _ h.2 hlen hE H locs lsA hl hP hD hS)
  · exact h.elim
theorem sn_ldiv (hx : p.tables.exec = Jvm.exec) (hb : c.code = cc) (hd : decode cc pc = .ok (.ldiv, 1))  (hX : ∀ pc ls st I L R, nx pc ls st I L R → zAt p l e Rm s m args below meth c cells slots Z dC dI cA ad K n nL E A pc ls st I L R) (h : z_ldiv K pc nx rt cx ls st I L R) : zAt p l e Rm s m args below meth c cells slots Z dC dI cA ad K n nL E A pc ls st I L R := by
  unfold z_ldiv at h
  split at h
  · intro hlen hE H locs lsA hl hP hD hS
    exact lv_ldiv hx hb hd h.1 (hX _ _ _ _ _ _ h.2 hlen hE H locs lsA hl hP hD hS)
  · exact h.elim
theorem sn_lrem (hx : p.tables.exec = Jvm.exec) (hb : c.code = cc) (hd : decode cc pc = .ok (.lrem, 1))  (hX : ∀ pc ls st I L R, nx pc ls st I L R → zAt p l e Rm s m args below meth c cells slots Z dC dI cA ad K n nL E A pc ls st I L R) (h : z_lrem K pc nx rt cx ls st I L R) : zAt p l e Rm s m args below meth c cells slots Z dC dI cA ad K n nL E A pc ls st I L R := by
  unfold z_lrem at h
  split at h
  · intro hlen hE H locs lsA hl hP hD hS
    exact lv_lrem hx hb hd h.1 (hX _ _ _ _ _ _ h.2 hlen hE H locs lsA hl hP hD hS)
  · exact h.elim
theorem sn_lcmp (hx : p.tables.exec = Jvm.exec) (hb : c.code = cc) (hd : decode cc pc = .ok (.lcmp, 1))  (hX : ∀ pc ls st I L R, nx pc ls st I L R → zAt p l e Rm s m args below meth c cells slots Z dC dI cA ad K n nL E A pc ls st I L R) (h : z_lcmp K pc nx rt cx ls st I L R) : zAt p l e Rm s m args below meth c cells slots Z dC dI cA ad K n nL E A pc ls st I L R := by
  unfold z_lcmp at h
  split at h
  · intro hlen hE H locs lsA hl hP hD hS
    exact W.lcmp hx hb hd (hX _ _ _ _ _ _ h hlen hE H locs lsA hl hP hD hS)
  · exact h.elim
theorem zcv_cat (ad : Nat → Nat) (v : Value) : (zcv ad v).category = v.category := by cases v <;> rfl
theorem sn_dup (hx : p.tables.exec = Jvm.exec) (hb : c.code = cc) (hd : decode cc pc = .ok (.dup, 1))  (hX : ∀ pc ls st I L R, nx pc ls st I L R → zAt p l e Rm s m args below meth c cells slots Z dC dI cA ad K n nL E A pc ls st I L R) (h : z_dup K pc nx rt cx ls st I L R) : zAt p l e Rm s m args below meth c cells slots Z dC dI cA ad K n nL E A pc ls st I L R := by
  unfold z_dup at h
  split at h
  · intro hlen hE H locs lsA hl hP hD hS
    exact lv_dup hx hb hd (by rw [zcv_cat]; exact h.1) (hX _ _ _ _ _ _ h.2 hlen hE H locs lsA hl hP hD hS)
  · exact h.elim
theorem sn_pop (hx : p.tables.exec = Jvm.exec) (hb : c.code = cc) (hd : decode cc pc = .ok (.pop, 1))  (hX : ∀ pc ls st I L R, nx pc ls st I L R → zAt p l e Rm s m args below meth c cells slots Z dC dI cA ad K n nL E A pc ls st I L R) (h : z_pop K pc nx rt cx ls st I L R) : zAt p l e Rm s m args below meth c cells slots Z dC dI cA ad K n nL E A pc ls st I L R := by
  unfold z_pop at h
  split at h
  · intro hlen hE H locs lsA hl hP hD hS
    exact lv_pop hx hb hd (by rw [zcv_cat]; exact h.1) (hX _ _ _ _ _ _ h.2 hlen hE H locs lsA hl hP hD hS)
  · exact h.elim
theorem sn_dup2 (hx : p.tables.exec = Jvm.exec) (hb : c.code = cc) (hd : decode cc pc = .ok (.dup2, 1))  (hX : ∀ pc ls st I L R, nx pc ls st I L R → zAt p l e Rm s m args below meth c cells slots Z dC dI cA ad K n nL E A pc ls st I L R) (h : z_dup2 K pc nx rt cx ls st I L R) : zAt p l e Rm s m args below meth c cells slots Z dC dI cA ad K n nL E A pc ls st I L R := by
  unfold z_dup2 at h
  split at h
  · intro hlen hE H locs lsA hl hP hD hS
    exact lv_dup2_11 hx hb hd (by rw [zcv_cat]; exact h.1) (by rw [zcv_cat]; exact h.2.1) (hX _ _ _ _ _ _ h.2.2 hlen hE H locs lsA hl hP hD hS)
  · exact h.elim
theorem sn_goto (hx : p.tables.exec = Jvm.exec) (hb : c.code = cc) {t : Nat} {off : Int} (hd : decode cc pc = .ok (.goto off, 3)) (ht : (pc : Int) + off = (t : Int))  (hX : ∀ pc ls st I L R, nx pc ls st I L R → zAt p l e Rm s m args below meth c cells slots Z dC dI cA ad K n nL E A pc ls st I L R) (h : z_goto t K pc nx rt cx ls st I L R) : zAt p l e Rm s m args below meth c cells slots Z dC dI cA ad K n nL E A pc ls st I L R := by
  intro hlen hE H locs lsA hl hP hD hS
  exact lv_goto hx hb hd ht (hX _ _ _ _ _ _ h hlen hE H locs lsA hl hP hD hS)
theorem sn_ifeq (hx : p.tables.exec = Jvm.exec) (hb : c.code = cc) {t : Nat} {off : Int} (hd : decode cc pc = .ok (.ifCond .eq off, 3)) (ht : (pc : Int) + off = (t : Int))  (hX : ∀ pc ls st I L R, nx pc ls st I L R → zAt p l e Rm s m args below meth c cells slots Z dC dI cA ad K n nL E A pc ls st I L R) (h : z_ifeq t K pc nx rt cx ls st I L R) : zAt p l e Rm s m args below meth c cells slots Z dC dI cA ad K n nL E A pc ls st I L R := by
  unfold z_ifeq at h
  split at h
  · intro hlen hE H locs lsA hl hP hD hS
    exact lv_if_eq hx hb hd ht (fun q => hX _ _ _ _ _ _ (h.1 q) hlen hE H locs lsA hl hP hD hS) (fun q => hX _ _ _ _ _ _ (h.2 q) hlen hE H locs lsA hl hP hD hS)
  · exact h.elim
theorem sn_ieq (hx : p.tables.exec = Jvm.exec) (hb : c.code = cc) {t : Nat} {off : Int} (hd : decode cc pc = .ok (.if_icmp .eq off, 3)) (ht : (pc : Int) + off = (t : Int))  (hX : ∀ pc ls st I L R, nx pc ls st I L R → zAt p l e Rm s m args below meth c cells slots Z dC dI cA ad K n nL E A pc ls st I L R) (h : z_ieq t K pc nx rt cx ls st I L R) : zAt p l e Rm s m args below meth c cells slots Z dC dI cA ad K n nL E A pc ls st I L R := by
  unfold z_ieq at h
  split at h
  · intro hlen hE H locs lsA hl hP hD hS
    exact lv_icmp_eq hx hb hd ht (fun q => hX _ _ _ _ _ _ (h.1 q) hlen hE H locs lsA hl hP hD hS) (fun q => hX _ _ _ _ _ _ (h.2 q) hlen hE H locs lsA hl hP hD hS)
  · exact h.elim
theorem sn_ifne (hx : p.tables.exec = Jvm.exec) (hb : c.code = cc) {t : Nat} {off : Int} (hd : decode cc pc = .ok (.ifCond .ne off, 3)) (ht : (pc : Int) + off = (t : Int))  (hX : ∀ pc ls st I L R, nx pc ls st I L R → zAt p l e Rm s m args below meth c cells slots Z dC dI cA ad K n nL E A pc ls st I L R) (h : z_ifne t K pc nx rt cx ls st I L R) : zAt p l e Rm s m args below meth c cells slots Z dC dI cA ad K n nL E A pc ls st I L R := by
  unfold z_ifne at h
  split at h
  · intro hlen hE H locs lsA hl hP hD hS
    exact lv_if_ne hx hb hd ht (fun q => hX _ _ _ _ _ _ (h.1 q) hlen hE H locs lsA hl hP hD hS) (fun q => hX _ _ _ _ _ _ (h.2 q) hlen hE H locs lsA hl hP hD hS)
  · exact h.elim
theorem sn_ine (hx : p.tables.exec = Jvm.exec) (hb : c.code = cc) {t : Nat} {off : Int} (hd : decode cc pc = .ok (.if_icmp .ne off, 3)) (ht : (pc : Int) + off = (t : Int))  (hX : ∀ pc ls st I L R, nx pc ls st I L R → zAt p l e Rm s m args below meth c cells slots Z dC dI cA ad K n nL E A pc ls st I L R) (h : z_ine t K pc nx rt cx ls st I L R) : zAt p l e Rm s m args below meth c cells slots Z dC dI cA ad K n nL E A pc ls st I L R := by
  unfold z_ine at h
  split at h
  · intro hlen hE H locs lsA hl hP hD hS
    exact lv_icmp_ne hx hb hd ht (fun q => hX _ _ _ _ _ _ (h.1 q) hlen hE H locs lsA hl hP hD hS) (fun q => hX _ _ _ _ _ _ (h.2 q) hlen hE H locs lsA hl hP hD hS)
  · exact h.elim
theorem sn_iflt (hx : p.tables.exec = Jvm.exec) (hb : c.code = cc) {t : Nat} {off : Int} (hd : decode cc pc = .ok (.ifCond .lt off, 3)) (ht : (pc : Int) + off = (t : Int))  (hX : ∀ pc ls st I L R, nx pc ls st I L R → zAt p l e Rm s m args below meth c cells slots Z dC dI cA ad K n nL E A pc ls st I L R) (h : z_iflt t K pc nx rt cx ls st I L R) : zAt p l e Rm s m args below meth c cells slots Z dC dI cA ad K n nL E A pc ls st I L R := by
  unfold z_iflt at h
  split at h
  · intro hlen hE H locs lsA hl hP hD hS
    exact lv_if_lt hx hb hd ht (fun q => hX _ _ _ _ _ _ (h.1 q) hlen hE H locs lsA hl hP hD hS) (fun q => hX _ _ _ _ _ _ (h.2 q) hlen hE H locs lsA hl hP hD hS)
  · exact h.elim
theorem sn_ilt (hx : p.tables.exec = Jvm.exec) (hb : c.code = cc) {t : Nat} {off : Int} (hd : decode cc pc = .ok (.if_icmp .lt off, 3)) (ht : (pc : Int) + off = (t : Int))  (hX : ∀ pc ls st I L R, nx pc ls st I L R → zAt p l e Rm s m args below meth c cells slots Z dC dI cA ad K n nL E A pc ls st I L R) (h : z_ilt t K pc nx rt cx ls st I L R) : zAt p l e Rm s m args below meth c cells slots Z dC dI cA ad K n nL E A pc ls st I L R := by
  unfold z_ilt at h
  split at h
  · intro hlen hE H locs lsA hl hP hD hS
    exact lv_icmp_lt hx hb hd ht (fun q => hX _ _ _ _ _ _ (h.1 q) hlen hE H locs lsA hl hP hD hS) (fun q => hX _ _ _ _ _ _ (h.2 q) hlen hE H locs lsA hl hP hD hS)
  · exact h.elim
theorem sn_ifge (hx : p.tables.exec = Jvm.exec) (hb : c.code = cc) {t : Nat} {off : Int} (hd : decode cc pc = .ok (.ifCond .ge off, 3)) (ht : (pc : Int) + off = (t : Int))  (hX : ∀ pc ls st I L R, nx pc ls st I L R → zAt p l e Rm s m args below meth c cells slots Z dC dI cA ad K n nL E A pc ls st I L R) (h : z_ifge t K pc nx rt cx ls st I L R) : zAt p l e Rm s m args below meth c cells slots Z dC dI cA ad K n nL E A pc ls st I L R := by
  unfold z_ifge at h
  split at h
  · intro hlen hE H locs lsA hl hP hD hS
    exact lv_if_ge hx hb hd ht (fun q => hX _ _ _ _ _ _ (h.1 q) hlen hE H locs lsA hl hP hD hS) (fun q => hX _ _ _ _ _ _ (h.2 q) hlen hE H locs lsA hl hP hD hS)
  · exact h.elim
theorem sn_ige (hx : p.tables.exec = Jvm.exec) (hb : c.code = cc) {t : Nat} {off : Int} (hd : decode cc pc = .ok (.if_icmp .ge off, 3)) (ht : (pc : Int) + off = (t : Int))  (hX : ∀ pc ls st I L R, nx pc ls st I L R → zAt p l e Rm s m args below meth c cells slots Z dC dI cA ad K n nL E A pc ls st I L R) (h : z_ige t K pc nx rt cx ls st I L R) : zAt p l e Rm s m args below meth c cells slots Z dC dI cA ad K n nL E A pc ls st I L R := by
  unfold z_ige at h
  split at h
  · intro hlen hE H locs lsA hl hP hD hS
    exact lv_icmp_ge hx hb hd ht (fun q => hX _ _ _ _ _ _ (h.1 q) hlen hE H locs lsA hl hP hD hS) (fun q => hX _ _ _ _ _ _ (h.2 q) hlen hE H locs lsA hl hP hD hS)
  · exact h.elim
theorem sn_ifgt (hx : p.tables.exec = Jvm.exec) (hb : c.code = cc) {t : Nat} {off : Int} (hd : decode cc pc = .ok (.ifCond .gt off, 3)) (ht : (pc : Int) + off = (t : Int))  (hX : ∀ pc ls st I L R, nx pc ls st I L R → zAt p l e Rm s m args below meth c cells slots Z dC dI cA ad K n nL E A pc ls st I L R) (h : z_ifgt t K pc nx rt cx ls st I L R) : zAt p l e Rm s m args below meth c cells slots Z dC dI cA ad K n nL E A pc ls st I L R := by
  unfold z_ifgt at h
  split at h
  · intro hlen hE H locs lsA hl hP hD hS
    exact lv_if_gt hx hb hd ht (fun q => hX _ _ _ _ _ _ (h.1 q) hlen hE H locs lsA hl hP hD hS) (fun q => hX _ _ _ _ _ _ (h.2 q) hlen hE H locs lsA hl hP hD hS)
  · exact h.elim
theorem sn_igt (hx : p.tables.exec = Jvm.exec) (hb : c.code = cc) {t : Nat} {off : Int} (hd : decode cc pc = .ok (.if_icmp .gt off, 3)) (ht : (pc : Int) + off = (t : Int))  (hX : ∀ pc ls st I L R, nx pc ls st I L R → zAt p l e Rm s m args below meth c cells slots Z dC dI cA ad K n nL E A pc ls st I L R) (h : z_igt t K pc nx rt cx ls st I L R) : zAt p l e Rm s m args below meth c cells slots Z dC dI cA ad K n nL E A pc ls st I L R := by
  unfold z_igt at h
  split at h
  · intro hlen hE H locs lsA hl hP hD hS
    exact lv_icmp_gt hx hb hd ht (fun q => hX _ _ _ _ _ _ (h.1 q) hlen hE H locs lsA hl hP hD hS) (fun q => hX _ _ _ _ _ _ (h.2 q) hlen hE H locs lsA hl hP hD hS)
  · exact h.elim
theorem sn_ifle (hx : p.tables.exec = Jvm.exec) (hb : c.code = cc) {t : Nat} {off : Int} (hd : decode cc pc = .ok (.ifCond .le off, 3)) (ht : (pc : Int) + off = (t : Int))  (hX : ∀ pc ls st I L R, nx pc ls st I L R → zAt p l e Rm s m args below meth c cells slots Z dC dI cA ad K n nL E A pc ls st I L R) (h : z_ifle t K pc nx rt cx ls st I L R) : zAt p l e Rm s m args below meth c cells slots Z dC dI cA ad K n nL E A pc ls st I L R := by
  unfold z_ifle at h
  split at h
  · intro hlen hE H locs lsA hl hP hD hS
    exact lv_if_le hx hb hd ht (fun q => hX _ _ _ _ _ _ (h.1 q) hlen hE H locs lsA hl hP hD hS) (fun q => hX _ _ _ _ _ _ (h.2 q) hlen hE H locs lsA hl hP hD hS)
  · exact h.elim
theorem sn_ile (hx : p.tables.exec = Jvm.exec) (hb : c.code = cc) {t : Nat} {off : Int} (hd : decode cc pc = .ok (.if_icmp .le off, 3)) (ht : (pc : Int) + off = (t : Int))  (hX : ∀ pc ls st I L R, nx pc ls st I L R → zAt p l e Rm s m args below meth c cells slots Z dC dI cA ad K n nL E A pc ls st I L R) (h : z_ile t K pc nx rt cx ls st I L R) : zAt p l e Rm s m args below meth c cells slots Z dC dI cA ad K n nL E A pc ls st I L R := by
  unfold z_ile at h
  split at h
  · intro hlen hE H locs lsA hl hP hD hS
    exact lv_icmp_le hx hb hd ht (fun q => hX _ _ _ _ _ _ (h.1 q) hlen hE H locs lsA hl hP hD hS) (fun q => hX _ _ _ _ _ _ (h.2 q) hlen hE H locs lsA hl hP hD hS)
  · exact h.elim
end ZS
end
section
/-! ===== soundness: memory, switches, returns ===== -/
def ztys (cA : Nat → ClassId) : List (ClassId × FieldType) := [(cA 20, .int), (cA 21, .long), (cA 22, .byte), (cA 23, .boolean), (cA 24, .object "HummingSet$Stage"), (cA 25, .object "HummingSet$Part"), (cA 26, .object "HummingSet$Way"), (cA 27, .array .int)]
/-- a field link: own's entry idx is field k of class ci; by its own class or a nest mate's -/
def zfl (own : String) (idx : Nat) (ref name desc : String) (args : Array Value) (s : State) : Prop := (Cond.fieldLink own idx ref name desc).before args s = true ∨ ∃ host, (Cond.fieldLinkNest own idx ref name desc host).before args s = true
theorem zlt_i {i : Int32} {j n : Nat} (hi : i = nI j) (hj : j < n) (hn : n < 2 ^ 31) : vp_in i n ∧ i.toNatClampNeg = j := by
  subst hi
  exact ⟨vp_in_nI hj hn, nI_clamp (by omega)⟩
theorem zcel_o {cA : Nat → ClassId} {ad : Nat → Nat} {K : ZKh} {I : ZMi} {L : ZMl} {R : ZMr} {a : Nat} (h : (K a).1 < 13) : zcel cA ad K I L R a = .inr ((K a).1, zfs ad (K a).1 I L R a) := by simp [zcel, h]
theorem zcel_i {cA : Nat → ClassId} {ad : Nat → Nat} {K : ZKh} {I : ZMi} {L : ZMl} {R : ZMr} {a kd k : Nat} (h : K a = (kd, k)) (h1 : 13 ≤ kd) (h2 : kd ≠ 21) (h3 : kd < 24) : zcel cA ad K I L R a = .inl (cA kd, k, .inl (I a)) := by
  have e : ¬ kd < 13 := by omega
  simp [zcel, h, e, h2, h3]
theorem zcel_l {cA : Nat → ClassId} {ad : Nat → Nat} {K : ZKh} {I : ZMi} {L : ZMl} {R : ZMr} {a k : Nat} (h : K a = (21, k)) : zcel cA ad K I L R a = .inl (cA 21, k, .inr (.inl (L a))) := by
  simp [zcel, h]
theorem zcel_r {cA : Nat → ClassId} {ad : Nat → Nat} {K : ZKh} {I : ZMi} {L : ZMl} {R : ZMr} {a kd k : Nat} (h : K a = (kd, k)) (h1 : 24 ≤ kd) : zcel cA ad K I L R a = .inl (cA kd, k, .inr (.inr (.inr (.inr (fun j => zre ad (R a j)))))) := by
  have e1 : ¬ kd < 13 := by omega
  have e2 : ¬ kd = 21 := by omega
  have e3 : ¬ kd < 24 := by omega
  simp [zcel, h, e1, e2, e3]
theorem zcel_eq {cA : Nat → ClassId} {ad : Nat → Nat} {K : ZKh} {I I' : ZMi} {L L' : ZMl} {R R' : ZMr} {b : Nat} (h1 : ∀ j, I' b j = I b j) (h2 : ∀ j, L' b j = L b j) (h3 : ∀ j, R' b j = R b j) : zcel cA ad K I' L' R' b = zcel cA ad K I L R b := by
  have e1 : I' b = I b := funext h1
  have e2 : L' b = L b := funext h2
  have e3 : R' b = R b := funext h3
  simp only [zcel, zfs, zfv, e1, e2, e3]
theorem zrow {α : Type} (f : Nat → Nat → α) (a j : Nat) (x : α) : zup f a j x a = fun q => if q = j then x else f a q := by
  funext q
  simp [zup]
section ZS
variable {p : Program} {l : Launch} {e : Env} {Rm : Room} {s : State} {m : MethodId} {args : Array Value} {below : List Frame} {meth : Method} {c : Code} {cells slots : Nat} {Z : State → Prop}
variable {cc : ByteArray} {pc : Nat} {dC : Nat → ClassId} {dI : Nat → Nat → Nat} {cA : Nat → ClassId} {ad : Nat → Nat} {K : ZKh} {n nL : Nat} {E : ZMi} {A : Nat → Prop} {own : String}
variable {nx : ZNx} {rt : ZRt} {cx : ZCx} {ls st : List Value} {I : ZMi} {L : ZMl} {R : ZMr}
set_option maxHeartbeats 1000000 in
theorem sn_gI (hx : p.tables.exec = Jvm.exec) (hb : c.code = cc) (hown : s.vm.findClass own = some m.cls) (hts : ∀ w ∈ zWS, w.before args s = true) (hK : va_K (dC, dI) zcls (ztys cA) s) (hKn : ∀ a, (K a).1 < 30 → (2 ≤ a ∧ a < n + 2) ∧ (K a).2 < 2 ^ 31) {ci k idx : Nat} {C : String} {T : u_T} {F : Nat → FieldType} (ho : zOK ci C T F) (hk : k < zN ci) (hlk : zfl own idx (T k).1 (T k).2.1 (T k).2.2.1 args s) (hty : zty ci k = 0) (hd : decode cc pc = .ok (.getfield idx, 3)) (hX : ∀ pc ls st I L R, nx pc ls st I L R → zAt p l e Rm s m args below meth c cells slots Z dC dI cA ad K n nL E A pc ls st I L R) (h : z_gI ci k K pc nx rt cx ls st I L R) : zAt p l e Rm s m args below meth c cells slots Z dC dI cA ad K n nL E A pc ls st I L R := by
  unfold z_gI at h
  split at h
  · rename_i a r
    obtain ⟨h1, x, h2, h⟩ := h
    obtain ⟨hci, hcl, hin, hnm, hF⟩ := ho
    intro hlen hE H locs lsA hl hP hD hS
    have hr := (hKn a (by omega)).1
    have he := zwl_at (cA := cA) (ad := ad) (K := K) (I := I) (L := L) (R := R) hr
    rw [zcel_o (by omega), h1] at he
    rcases hlk with hlk | ⟨host, hlk⟩
    · exact va_get (C := C) (T := T) (N := zN ci) (v := .int x) hx hb hts hin hown hK hP (a - 2) he hcl k hk hlk (fun _ q => q) (by rw [zfs_at hk]; simp only [hty, zfv]; rw [h2]) hd (hX _ _ _ _ _ _ h hlen hE H locs lsA hl hP hD hS)
    · exact va_getN (C := C) (T := T) (N := zN ci) (v := .int x) hx hb hts hin hown hK hP (a - 2) he hcl k hk hlk (fun _ q => q) (by rw [zfs_at hk]; simp only [hty, zfv]; rw [h2]) hd (hX _ _ _ _ _ _ h hlen hE H locs lsA hl hP hD hS)
  · exact h.elim
set_option maxHeartbeats 1000000 in
theorem sn_gL (hx : p.tables.exec = Jvm.exec) (hb : c.code = cc) (hown : s.vm.findClass own = some m.cls) (hts : ∀ w ∈ zWS, w.before args s = true) (hK : va_K (dC, dI) zcls (ztys cA) s) (hKn : ∀ a, (K a).1 < 30 → (2 ≤ a ∧ a < n + 2) ∧ (K a).2 < 2 ^ 31) {ci k idx : Nat} {C : String} {T : u_T} {F : Nat → FieldType} (ho : zOK ci C T F) (hk : k < zN ci) (hlk : zfl own idx (T k).1 (T k).2.1 (T k).2.2.1 args s) (hty : zty ci k = 1) (hd : decode cc pc = .ok (.getfield idx, 3)) (hX : ∀ pc ls st I L R, nx pc ls st I L R → zAt p l e Rm s m args below meth c cells slots Z dC dI cA ad K n nL E A pc ls st I L R) (h : z_gL ci k K pc nx rt cx ls st I L R) : zAt p l e Rm s m args below meth c cells slots Z dC dI cA ad K n nL E A pc ls st I L R := by
  unfold z_gL at h
  split at h
  · rename_i a r
    obtain ⟨h1, x, h2, h⟩ := h
    obtain ⟨hci, hcl, hin, hnm, hF⟩ := ho
    intro hlen hE H locs lsA hl hP hD hS
    have hr := (hKn a (by omega)).1
    have he := zwl_at (cA := cA) (ad := ad) (K := K) (I := I) (L := L) (R := R) hr
    rw [zcel_o (by omega), h1] at he
    rcases hlk with hlk | ⟨host, hlk⟩
    · exact va_get (C := C) (T := T) (N := zN ci) (v := .long x) hx hb hts hin hown hK hP (a - 2) he hcl k hk hlk (fun _ q => q) (by rw [zfs_at hk]; simp only [hty, zfv]; rw [h2]) hd (hX _ _ _ _ _ _ h hlen hE H locs lsA hl hP hD hS)
    · exact va_getN (C := C) (T := T) (N := zN ci) (v := .long x) hx hb hts hin hown hK hP (a - 2) he hcl k hk hlk (fun _ q => q) (by rw [zfs_at hk]; simp only [hty, zfv]; rw [h2]) hd (hX _ _ _ _ _ _ h hlen hE H locs lsA hl hP hD hS)
  · exact h.elim
set_option maxHeartbeats 1000000 in
theorem sn_gR (hx : p.tables.exec = Jvm.exec) (hb : c.code = cc) (hown : s.vm.findClass own = some m.cls) (hts : ∀ w ∈ zWS, w.before args s = true) (hK : va_K (dC, dI) zcls (ztys cA) s) (hKn : ∀ a, (K a).1 < 30 → (2 ≤ a ∧ a < n + 2) ∧ (K a).2 < 2 ^ 31) {ci k idx : Nat} {C : String} {T : u_T} {F : Nat → FieldType} (ho : zOK ci C T F) (hk : k < zN ci) (hlk : zfl own idx (T k).1 (T k).2.1 (T k).2.2.1 args s) (hty : zty ci k = 2) (hd : decode cc pc = .ok (.getfield idx, 3)) (hX : ∀ pc ls st I L R, nx pc ls st I L R → zAt p l e Rm s m args below meth c cells slots Z dC dI cA ad K n nL E A pc ls st I L R) (h : z_gR ci k K pc nx rt cx ls st I L R) : zAt p l e Rm s m args below meth c cells slots Z dC dI cA ad K n nL E A pc ls st I L R := by
  unfold z_gR at h
  split at h
  · rename_i a r
    obtain ⟨h1, x, h2, h⟩ := h
    obtain ⟨hci, hcl, hin, hnm, hF⟩ := ho
    intro hlen hE H locs lsA hl hP hD hS
    have hr := (hKn a (by omega)).1
    have he := zwl_at (cA := cA) (ad := ad) (K := K) (I := I) (L := L) (R := R) hr
    rw [zcel_o (by omega), h1] at he
    rcases hlk with hlk | ⟨host, hlk⟩
    · exact va_get (C := C) (T := T) (N := zN ci) (v := .ref (ad x)) hx hb hts hin hown hK hP (a - 2) he hcl k hk hlk (fun _ q => q) (by rw [zfs_at hk]; simp only [hty, zfv]; rw [h2]; rfl) hd (hX _ _ _ _ _ _ h hlen hE H locs lsA hl hP hD hS)
    · exact va_getN (C := C) (T := T) (N := zN ci) (v := .ref (ad x)) hx hb hts hin hown hK hP (a - 2) he hcl k hk hlk (fun _ q => q) (by rw [zfs_at hk]; simp only [hty, zfv]; rw [h2]; rfl) hd (hX _ _ _ _ _ _ h hlen hE H locs lsA hl hP hD hS)
  · exact h.elim
set_option maxHeartbeats 1000000 in
theorem sn_pI (hx : p.tables.exec = Jvm.exec) (hb : c.code = cc) (hown : s.vm.findClass own = some m.cls) (hts : ∀ w ∈ zWS, w.before args s = true) (hK : va_K (dC, dI) zcls (ztys cA) s) (hKn : ∀ a, (K a).1 < 30 → (2 ≤ a ∧ a < n + 2) ∧ (K a).2 < 2 ^ 31) {ci k idx : Nat} {C : String} {T : u_T} {F : Nat → FieldType} (ho : zOK ci C T F) (hk : k < zN ci) (hlk : zfl own idx (T k).1 (T k).2.1 (T k).2.2.1 args s) (hty : zty ci k = 0) (hfin : (T k).2.2.2 = false) (hf : F k = .int) (hd : decode cc pc = .ok (.putfield idx, 3)) (hX : ∀ pc ls st I L R, nx pc ls st I L R → zAt p l e Rm s m args below meth c cells slots Z dC dI cA ad K n nL E A pc ls st I L R) (h : z_pI ci k K pc nx rt cx ls st I L R) : zAt p l e Rm s m args below meth c cells slots Z dC dI cA ad K n nL E A pc ls st I L R := by
  unfold z_pI at h
  split at h
  · rename_i x a r
    obtain ⟨h1, h⟩ := h
    obtain ⟨hci, hcl, hin, hnm, hF⟩ := ho
    intro hlen hE H locs lsA hl hP hD hS
    have hr := (hKn a (by omega)).1
    have he := zwl_at (cA := cA) (ad := ad) (K := K) (I := I) (L := L) (R := R) hr
    rw [zcel_o (by omega), h1] at he
    have hset : (zwl cA ad K n I L R).set (a - 2) (ad a, .inr (ci, (zfs ad ci I L R a).set k (.int x))) = zwl cA ad K n (zup I a k x) L R := by
      refine zwl_set hr ?_ (fun b hb => zcel_eq (fun j => zup_na _ _ _ _ hb) (fun j => rfl) (fun j => rfl))
      rw [zcel_o (by omega), h1]
      rw [zfs_set (I' := (zup I a k x)) (L' := L) (R' := R) hk (by simp only [hty, zfv, zup_s]; try rfl) (fun j hj => by simp only [zfv]; split <;> first | rfl | rw [zup_nk _ _ _ _ hj])]
    rcases hlk with hlk | ⟨host, hlk⟩
    · refine va_put (C := C) (T := T) (N := zN ci) (v := .int x) (ty := F k) hx hb hts hin F hF hnm hown hK hP hD hS (a - 2) he hcl k hk hlk (fun _ q => q) hfin (hF k hk) (by rw [hf]; rfl) (by rw [hf]; rfl) (by rw [zfs_len]; exact hk) hd (fun H1 locs1 hP1 hD1 hS1 => ?_)
      rw [hset] at hP1 hD1
      exact hX _ _ _ _ _ _ h hlen (fun b hb2 j => by rw [zup_na _ _ _ _ (fun q => by rw [q] at hb2; omega)]; exact hE b hb2 j) H1 locs1 lsA hl hP1 hD1 hS1
    · refine va_putN (C := C) (T := T) (N := zN ci) (v := .int x) (ty := F k) hx hb hts hin F hF hnm hown hK hP hD hS (a - 2) he hcl k hk hlk (fun _ q => q) hfin (hF k hk) (by rw [hf]; rfl) (by rw [hf]; rfl) (by rw [zfs_len]; exact hk) hd (fun H1 locs1 hP1 hD1 hS1 => ?_)
      rw [hset] at hP1 hD1
      exact hX _ _ _ _ _ _ h hlen (fun b hb2 j => by rw [zup_na _ _ _ _ (fun q => by rw [q] at hb2; omega)]; exact hE b hb2 j) H1 locs1 lsA hl hP1 hD1 hS1
  · exact h.elim
set_option maxHeartbeats 1000000 in
theorem sn_pL (hx : p.tables.exec = Jvm.exec) (hb : c.code = cc) (hown : s.vm.findClass own = some m.cls) (hts : ∀ w ∈ zWS, w.before args s = true) (hK : va_K (dC, dI) zcls (ztys cA) s) (hKn : ∀ a, (K a).1 < 30 → (2 ≤ a ∧ a < n + 2) ∧ (K a).2 < 2 ^ 31) {ci k idx : Nat} {C : String} {T : u_T} {F : Nat → FieldType} (ho : zOK ci C T F) (hk : k < zN ci) (hlk : zfl own idx (T k).1 (T k).2.1 (T k).2.2.1 args s) (hty : zty ci k = 1) (hfin : (T k).2.2.2 = false) (hf : F k = .long) (hd : decode cc pc = .ok (.putfield idx, 3)) (hX : ∀ pc ls st I L R, nx pc ls st I L R → zAt p l e Rm s m args below meth c cells slots Z dC dI cA ad K n nL E A pc ls st I L R) (h : z_pL ci k K pc nx rt cx ls st I L R) : zAt p l e Rm s m args below meth c cells slots Z dC dI cA ad K n nL E A pc ls st I L R := by
  unfold z_pL at h
  split at h
  · rename_i x a r
    obtain ⟨h1, h⟩ := h
    obtain ⟨hci, hcl, hin, hnm, hF⟩ := ho
    intro hlen hE H locs lsA hl hP hD hS
    have hr := (hKn a (by omega)).1
    have he := zwl_at (cA := cA) (ad := ad) (K := K) (I := I) (L := L) (R := R) hr
    rw [zcel_o (by omega), h1] at he
    have hset : (zwl cA ad K n I L R).set (a - 2) (ad a, .inr (ci, (zfs ad ci I L R a).set k (.long x))) = zwl cA ad K n I (zup L a k x) R := by
      refine zwl_set hr ?_ (fun b hb => zcel_eq (fun j => rfl) (fun j => zup_na _ _ _ _ hb) (fun j => rfl))
      rw [zcel_o (by omega), h1]
      rw [zfs_set (I' := I) (L' := (zup L a k x)) (R' := R) hk (by simp only [hty, zfv, zup_s]; try rfl) (fun j hj => by simp only [zfv]; split <;> first | rfl | rw [zup_nk _ _ _ _ hj])]
    rcases hlk with hlk | ⟨host, hlk⟩
    · refine va_put (C := C) (T := T) (N := zN ci) (v := .long x) (ty := F k) hx hb hts hin F hF hnm hown hK hP hD hS (a - 2) he hcl k hk hlk (fun _ q => q) hfin (hF k hk) (by rw [hf]; rfl) (by rw [hf]; rfl) (by rw [zfs_len]; exact hk) hd (fun H1 locs1 hP1 hD1 hS1 => ?_)
      rw [hset] at hP1 hD1
      exact hX _ _ _ _ _ _ h hlen hE H1 locs1 lsA hl hP1 hD1 hS1
    · refine va_putN (C := C) (T := T) (N := zN ci) (v := .long x) (ty := F k) hx hb hts hin F hF hnm hown hK hP hD hS (a - 2) he hcl k hk hlk (fun _ q => q) hfin (hF k hk) (by rw [hf]; rfl) (by rw [hf]; rfl) (by rw [zfs_len]; exact hk) hd (fun H1 locs1 hP1 hD1 hS1 => ?_)
      rw [hset] at hP1 hD1
      exact hX _ _ _ _ _ _ h hlen hE H1 locs1 lsA hl hP1 hD1 hS1
  · exact h.elim
set_option maxHeartbeats 1000000 in
theorem sn_pR (hx : p.tables.exec = Jvm.exec) (hb : c.code = cc) (hown : s.vm.findClass own = some m.cls) (hts : ∀ w ∈ zWS, w.before args s = true) (hK : va_K (dC, dI) zcls (ztys cA) s) (hKn : ∀ a, (K a).1 < 30 → (2 ≤ a ∧ a < n + 2) ∧ (K a).2 < 2 ^ 31) {ci k idx : Nat} {C : String} {T : u_T} {F : Nat → FieldType} (ho : zOK ci C T F) (hk : k < zN ci) (hlk : zfl own idx (T k).1 (T k).2.1 (T k).2.2.1 args s) (hty : zty ci k = 2) (hfin : (T k).2.2.2 = false) (hf : narrow (F k) (.ref 0) = .ref 0 ∧ ∀ b, narrow (F k) (.ref b) = .ref b ∧ fits (F k) (.ref b) = true) (hd : decode cc pc = .ok (.putfield idx, 3)) (hX : ∀ pc ls st I L R, nx pc ls st I L R → zAt p l e Rm s m args below meth c cells slots Z dC dI cA ad K n nL E A pc ls st I L R) (h : z_pR ci k K pc nx rt cx ls st I L R) : zAt p l e Rm s m args below meth c cells slots Z dC dI cA ad K n nL E A pc ls st I L R := by
  unfold z_pR at h
  split at h
  · rename_i x a r
    obtain ⟨h1, h⟩ := h
    obtain ⟨hci, hcl, hin, hnm, hF⟩ := ho
    intro hlen hE H locs lsA hl hP hD hS
    have hr := (hKn a (by omega)).1
    have he := zwl_at (cA := cA) (ad := ad) (K := K) (I := I) (L := L) (R := R) hr
    rw [zcel_o (by omega), h1] at he
    have hset : (zwl cA ad K n I L R).set (a - 2) (ad a, .inr (ci, (zfs ad ci I L R a).set k (.ref (ad x)))) = zwl cA ad K n I L (zup R a k (x + 1)) := by
      refine zwl_set hr ?_ (fun b hb => zcel_eq (fun j => rfl) (fun j => rfl) (fun j => zup_na _ _ _ _ hb))
      rw [zcel_o (by omega), h1]
      rw [zfs_set (I' := I) (L' := L) (R' := (zup R a k (x + 1))) hk (by simp only [hty, zfv, zup_s]; try rfl) (fun j hj => by simp only [zfv]; split <;> first | rfl | rw [zup_nk _ _ _ _ hj])]
    rcases hlk with hlk | ⟨host, hlk⟩
    · refine va_put (C := C) (T := T) (N := zN ci) (v := .ref (ad x)) (ty := F k) hx hb hts hin F hF hnm hown hK hP hD hS (a - 2) he hcl k hk hlk (fun _ q => q) hfin (hF k hk) (hf.2 _).1 (hf.2 _).2 (by rw [zfs_len]; exact hk) hd (fun H1 locs1 hP1 hD1 hS1 => ?_)
      rw [hset] at hP1 hD1
      exact hX _ _ _ _ _ _ h hlen hE H1 locs1 lsA hl hP1 hD1 hS1
    · refine va_putN (C := C) (T := T) (N := zN ci) (v := .ref (ad x)) (ty := F k) hx hb hts hin F hF hnm hown hK hP hD hS (a - 2) he hcl k hk hlk (fun _ q => q) hfin (hF k hk) (hf.2 _).1 (hf.2 _).2 (by rw [zfs_len]; exact hk) hd (fun H1 locs1 hP1 hD1 hS1 => ?_)
      rw [hset] at hP1 hD1
      exact hX _ _ _ _ _ _ h hlen hE H1 locs1 lsA hl hP1 hD1 hS1
  · exact h.elim
set_option maxHeartbeats 1000000 in
theorem sn_pRF (hx : p.tables.exec = Jvm.exec) (hb : c.code = cc) (hown : s.vm.findClass own = some m.cls) (hts : ∀ w ∈ zWS, w.before args s = true) (hK : va_K (dC, dI) zcls (ztys cA) s) (hKn : ∀ a, (K a).1 < 30 → (2 ≤ a ∧ a < n + 2) ∧ (K a).2 < 2 ^ 31) {ci k idx : Nat} {C : String} {T : u_T} {F : Nat → FieldType} (ho : zOK ci C T F) (hk : k < zN ci) (hlk : (Cond.fieldLink own idx (T k).1 (T k).2.1 (T k).2.2.1).before args s = true) (hty : zty ci k = 2) (hfin : (T k).2.2.2 = true) (hinit : meth.name = "<init>") (hdecl : (T k).1 = own) (hf : narrow (F k) (.ref 0) = .ref 0 ∧ ∀ b, narrow (F k) (.ref b) = .ref b ∧ fits (F k) (.ref b) = true) (hd : decode cc pc = .ok (.putfield idx, 3)) (hX : ∀ pc ls st I L R, nx pc ls st I L R → zAt p l e Rm s m args below meth c cells slots Z dC dI cA ad K n nL E A pc ls st I L R) (h : z_pR ci k K pc nx rt cx ls st I L R) : zAt p l e Rm s m args below meth c cells slots Z dC dI cA ad K n nL E A pc ls st I L R := by
  unfold z_pR at h
  split at h
  · rename_i x a r
    obtain ⟨h1, h⟩ := h
    obtain ⟨hci, hcl, hin, hnm, hF⟩ := ho
    intro hlen hE H locs lsA hl hP hD hS
    have hr := (hKn a (by omega)).1
    have he := zwl_at (cA := cA) (ad := ad) (K := K) (I := I) (L := L) (R := R) hr
    rw [zcel_o (by omega), h1] at he
    have hset : (zwl cA ad K n I L R).set (a - 2) (ad a, .inr (ci, (zfs ad ci I L R a).set k (.ref (ad x)))) = zwl cA ad K n I L (zup R a k (x + 1)) := by
      refine zwl_set hr ?_ (fun b hb => zcel_eq (fun j => rfl) (fun j => rfl) (fun j => zup_na _ _ _ _ hb))
      rw [zcel_o (by omega), h1]
      rw [zfs_set (I' := I) (L' := L) (R' := (zup R a k (x + 1))) hk (by simp only [hty, zfv, zup_s]; try rfl) (fun j hj => by simp only [zfv]; split <;> first | rfl | rw [zup_nk _ _ _ _ hj])]
    refine va_putF (C := C) (T := T) (N := zN ci) (v := .ref (ad x)) (ty := F k) hx hb hts hin F hF hnm hown hK hP hD hS (a - 2) he hcl k hk hlk (fun _ q => q) hfin hinit hdecl (hF k hk) (hf.2 _).1 (hf.2 _).2 (by rw [zfs_len]; exact hk) hd (fun H1 locs1 hP1 hD1 hS1 => ?_)
    rw [hset] at hP1 hD1
    exact hX _ _ _ _ _ _ h hlen hE H1 locs1 lsA hl hP1 hD1 hS1
  · exact h.elim
set_option maxHeartbeats 1000000 in
theorem sn_iald (hx : p.tables.exec = Jvm.exec) (hb : c.code = cc) (hK : va_K (dC, dI) zcls (ztys cA) s) (hKn : ∀ a, (K a).1 < 30 → (2 ≤ a ∧ a < n + 2) ∧ (K a).2 < 2 ^ 31) (hd : decode cc pc = .ok (.iaload, 1)) (hX : ∀ pc ls st I L R, nx pc ls st I L R → zAt p l e Rm s m args below meth c cells slots Z dC dI cA ad K n nL E A pc ls st I L R) (h : z_iald 20 K pc nx rt cx ls st I L R) : zAt p l e Rm s m args below meth c cells slots Z dC dI cA ad K n nL E A pc ls st I L R := by
  unfold z_iald at h
  split at h
  · rename_i i a r
    obtain ⟨k, j, x, h1, hi, hj, h2, h⟩ := h
    intro hlen hE H locs lsA hl hP hD hS
    obtain ⟨hr, hk⟩ := hKn a (by rw [h1]; exact Nat.le_of_ble_eq_true rfl)
    rw [h1] at hk
    have he := zwl_at (cA := cA) (ad := ad) (K := K) (I := I) (L := L) (R := R) hr
    rw [zcel_i h1 (by decide) (by decide) (by decide)] at he
    obtain ⟨hin, hcl⟩ := zlt_i hi hj hk
    refine va_iald hx hb hK hP (a - 2) 0 he rfl hin hd ?_
    rw [hcl, h2]
    exact hX _ _ _ _ _ _ h hlen hE H locs lsA hl hP hD hS
  · exact h.elim
set_option maxHeartbeats 1000000 in
theorem sn_bald (hx : p.tables.exec = Jvm.exec) (hb : c.code = cc) (hK : va_K (dC, dI) zcls (ztys cA) s) (hKn : ∀ a, (K a).1 < 30 → (2 ≤ a ∧ a < n + 2) ∧ (K a).2 < 2 ^ 31) (hd : decode cc pc = .ok (.baload, 1)) (hX : ∀ pc ls st I L R, nx pc ls st I L R → zAt p l e Rm s m args below meth c cells slots Z dC dI cA ad K n nL E A pc ls st I L R) (h : z_iald 22 K pc nx rt cx ls st I L R) : zAt p l e Rm s m args below meth c cells slots Z dC dI cA ad K n nL E A pc ls st I L R := by
  unfold z_iald at h
  split at h
  · rename_i i a r
    obtain ⟨k, j, x, h1, hi, hj, h2, h⟩ := h
    intro hlen hE H locs lsA hl hP hD hS
    obtain ⟨hr, hk⟩ := hKn a (by rw [h1]; exact Nat.le_of_ble_eq_true rfl)
    rw [h1] at hk
    have he := zwl_at (cA := cA) (ad := ad) (K := K) (I := I) (L := L) (R := R) hr
    rw [zcel_i h1 (by decide) (by decide) (by decide)] at he
    obtain ⟨hin, hcl⟩ := zlt_i hi hj hk
    refine va_bald hx hb hK hP (a - 2) 2 he rfl hin hd ?_
    rw [hcl, h2]
    exact hX _ _ _ _ _ _ h hlen hE H locs lsA hl hP hD hS
  · exact h.elim
set_option maxHeartbeats 1000000 in
theorem sn_zald (hx : p.tables.exec = Jvm.exec) (hb : c.code = cc) (hK : va_K (dC, dI) zcls (ztys cA) s) (hKn : ∀ a, (K a).1 < 30 → (2 ≤ a ∧ a < n + 2) ∧ (K a).2 < 2 ^ 31) (hd : decode cc pc = .ok (.baload, 1)) (hX : ∀ pc ls st I L R, nx pc ls st I L R → zAt p l e Rm s m args below meth c cells slots Z dC dI cA ad K n nL E A pc ls st I L R) (h : z_iald 23 K pc nx rt cx ls st I L R) : zAt p l e Rm s m args below meth c cells slots Z dC dI cA ad K n nL E A pc ls st I L R := by
  unfold z_iald at h
  split at h
  · rename_i i a r
    obtain ⟨k, j, x, h1, hi, hj, h2, h⟩ := h
    intro hlen hE H locs lsA hl hP hD hS
    obtain ⟨hr, hk⟩ := hKn a (by rw [h1]; exact Nat.le_of_ble_eq_true rfl)
    rw [h1] at hk
    have he := zwl_at (cA := cA) (ad := ad) (K := K) (I := I) (L := L) (R := R) hr
    rw [zcel_i h1 (by decide) (by decide) (by decide)] at he
    obtain ⟨hin, hcl⟩ := zlt_i hi hj hk
    refine va_zald hx hb hK hP (a - 2) 3 he rfl hin hd ?_
    rw [hcl, h2]
    exact hX _ _ _ _ _ _ h hlen hE H locs lsA hl hP hD hS
  · exact h.elim
set_option maxHeartbeats 1000000 in
theorem sn_lald (hx : p.tables.exec = Jvm.exec) (hb : c.code = cc) (hK : va_K (dC, dI) zcls (ztys cA) s) (hKn : ∀ a, (K a).1 < 30 → (2 ≤ a ∧ a < n + 2) ∧ (K a).2 < 2 ^ 31) (hd : decode cc pc = .ok (.laload, 1)) (hX : ∀ pc ls st I L R, nx pc ls st I L R → zAt p l e Rm s m args below meth c cells slots Z dC dI cA ad K n nL E A pc ls st I L R) (h : z_lald K pc nx rt cx ls st I L R) : zAt p l e Rm s m args below meth c cells slots Z dC dI cA ad K n nL E A pc ls st I L R := by
  unfold z_lald at h
  split at h
  · rename_i i a r
    obtain ⟨k, j, x, h1, hi, hj, h2, h⟩ := h
    intro hlen hE H locs lsA hl hP hD hS
    obtain ⟨hr, hk⟩ := hKn a (by rw [h1]; exact Nat.le_of_ble_eq_true rfl)
    rw [h1] at hk
    have he := zwl_at (cA := cA) (ad := ad) (K := K) (I := I) (L := L) (R := R) hr
    rw [zcel_l h1] at he
    obtain ⟨hin, hcl⟩ := zlt_i hi hj hk
    refine va_lald hx hb hK hP (a - 2) 1 he rfl hin hd ?_
    rw [hcl, h2]
    exact hX _ _ _ _ _ _ h hlen hE H locs lsA hl hP hD hS
  · exact h.elim
set_option maxHeartbeats 1000000 in
theorem sn_aald24 (hx : p.tables.exec = Jvm.exec) (hb : c.code = cc) (hK : va_K (dC, dI) zcls (ztys cA) s) (hKn : ∀ a, (K a).1 < 30 → (2 ≤ a ∧ a < n + 2) ∧ (K a).2 < 2 ^ 31) (hd : decode cc pc = .ok (.aaload, 1)) (hX : ∀ pc ls st I L R, nx pc ls st I L R → zAt p l e Rm s m args below meth c cells slots Z dC dI cA ad K n nL E A pc ls st I L R) (h : z_aald 24 K pc nx rt cx ls st I L R) : zAt p l e Rm s m args below meth c cells slots Z dC dI cA ad K n nL E A pc ls st I L R := by
  unfold z_aald at h
  split at h
  · rename_i i a r
    obtain ⟨k, j, x, h1, hi, hj, h2, h⟩ := h
    intro hlen hE H locs lsA hl hP hD hS
    obtain ⟨hr, hk⟩ := hKn a (by rw [h1]; exact Nat.le_of_ble_eq_true rfl)
    rw [h1] at hk
    have he := zwl_at (cA := cA) (ad := ad) (K := K) (I := I) (L := L) (R := R) hr
    rw [zcel_r h1 (by decide)] at he
    obtain ⟨hin, hcl⟩ := zlt_i hi hj hk
    refine va_aldq hx hb hK hP (a - 2) 4 he rfl hin hd ?_
    rw [hcl, h2]
    exact hX _ _ _ _ _ _ h hlen hE H locs lsA hl hP hD hS
  · exact h.elim
set_option maxHeartbeats 1000000 in
theorem sn_aald25 (hx : p.tables.exec = Jvm.exec) (hb : c.code = cc) (hK : va_K (dC, dI) zcls (ztys cA) s) (hKn : ∀ a, (K a).1 < 30 → (2 ≤ a ∧ a < n + 2) ∧ (K a).2 < 2 ^ 31) (hd : decode cc pc = .ok (.aaload, 1)) (hX : ∀ pc ls st I L R, nx pc ls st I L R → zAt p l e Rm s m args below meth c cells slots Z dC dI cA ad K n nL E A pc ls st I L R) (h : z_aald 25 K pc nx rt cx ls st I L R) : zAt p l e Rm s m args below meth c cells slots Z dC dI cA ad K n nL E A pc ls st I L R := by
  unfold z_aald at h
  split at h
  · rename_i i a r
    obtain ⟨k, j, x, h1, hi, hj, h2, h⟩ := h
    intro hlen hE H locs lsA hl hP hD hS
    obtain ⟨hr, hk⟩ := hKn a (by rw [h1]; exact Nat.le_of_ble_eq_true rfl)
    rw [h1] at hk
    have he := zwl_at (cA := cA) (ad := ad) (K := K) (I := I) (L := L) (R := R) hr
    rw [zcel_r h1 (by decide)] at he
    obtain ⟨hin, hcl⟩ := zlt_i hi hj hk
    refine va_aldq hx hb hK hP (a - 2) 5 he rfl hin hd ?_
    rw [hcl, h2]
    exact hX _ _ _ _ _ _ h hlen hE H locs lsA hl hP hD hS
  · exact h.elim
set_option maxHeartbeats 1000000 in
theorem sn_aald26 (hx : p.tables.exec = Jvm.exec) (hb : c.code = cc) (hK : va_K (dC, dI) zcls (ztys cA) s) (hKn : ∀ a, (K a).1 < 30 → (2 ≤ a ∧ a < n + 2) ∧ (K a).2 < 2 ^ 31) (hd : decode cc pc = .ok (.aaload, 1)) (hX : ∀ pc ls st I L R, nx pc ls st I L R → zAt p l e Rm s m args below meth c cells slots Z dC dI cA ad K n nL E A pc ls st I L R) (h : z_aald 26 K pc nx rt cx ls st I L R) : zAt p l e Rm s m args below meth c cells slots Z dC dI cA ad K n nL E A pc ls st I L R := by
  unfold z_aald at h
  split at h
  · rename_i i a r
    obtain ⟨k, j, x, h1, hi, hj, h2, h⟩ := h
    intro hlen hE H locs lsA hl hP hD hS
    obtain ⟨hr, hk⟩ := hKn a (by rw [h1]; exact Nat.le_of_ble_eq_true rfl)
    rw [h1] at hk
    have he := zwl_at (cA := cA) (ad := ad) (K := K) (I := I) (L := L) (R := R) hr
    rw [zcel_r h1 (by decide)] at he
    obtain ⟨hin, hcl⟩ := zlt_i hi hj hk
    refine va_aldq hx hb hK hP (a - 2) 6 he rfl hin hd ?_
    rw [hcl, h2]
    exact hX _ _ _ _ _ _ h hlen hE H locs lsA hl hP hD hS
  · exact h.elim
set_option maxHeartbeats 1000000 in
theorem sn_iast (hx : p.tables.exec = Jvm.exec) (hb : c.code = cc) (hK : va_K (dC, dI) zcls (ztys cA) s) (hKn : ∀ a, (K a).1 < 30 → (2 ≤ a ∧ a < n + 2) ∧ (K a).2 < 2 ^ 31) (hd : decode cc pc = .ok (.iastore, 1)) (hX : ∀ pc ls st I L R, nx pc ls st I L R → zAt p l e Rm s m args below meth c cells slots Z dC dI cA ad K n nL E A pc ls st I L R) (h : z_iast K pc nx rt cx ls st I L R) : zAt p l e Rm s m args below meth c cells slots Z dC dI cA ad K n nL E A pc ls st I L R := by
  unfold z_iast at h
  split at h
  · rename_i x i a r
    obtain ⟨k, j, h1, hi, hj, h⟩ := h
    intro hlen hE H locs lsA hl hP hD hS
    obtain ⟨hr, hk⟩ := hKn a (by rw [h1]; exact Nat.le_of_ble_eq_true rfl)
    rw [h1] at hk
    have he := zwl_at (cA := cA) (ad := ad) (K := K) (I := I) (L := L) (R := R) hr
    rw [zcel_i h1 (by decide) (by decide) (by decide)] at he
    obtain ⟨hin, hcl⟩ := zlt_i hi hj hk
    refine va_iast hx hb hK hP hD hS (a - 2) 0 he rfl hin hd (fun H1 locs1 hP1 hD1 hS1 => ?_)
    have hset : (zwl cA ad K n I L R).set (a - 2) (ad a, .inl (cA 20, k, .inl (upd (I a) i.toNatClampNeg x))) = zwl cA ad K n (zup I a j x) L R := by
      refine zwl_set hr ?_ (fun b hb => zcel_eq (fun q => zup_na _ _ _ _ hb) (fun q => rfl) (fun q => rfl))
      rw [zcel_i h1 (by decide) (by decide) (by decide), zrow, hcl]
      rfl
    rw [hset] at hP1 hD1
    exact hX _ _ _ _ _ _ h hlen (fun b hb2 q => by rw [zup_na _ _ _ _ (fun q => by rw [q, h1] at hb2; cases hb2)]; exact hE b hb2 q) H1 locs1 lsA hl hP1 hD1 hS1
  · exact h.elim
set_option maxHeartbeats 1000000 in
theorem sn_bast (hx : p.tables.exec = Jvm.exec) (hb : c.code = cc) (hK : va_K (dC, dI) zcls (ztys cA) s) (hKn : ∀ a, (K a).1 < 30 → (2 ≤ a ∧ a < n + 2) ∧ (K a).2 < 2 ^ 31) (hd : decode cc pc = .ok (.bastore, 1)) (hX : ∀ pc ls st I L R, nx pc ls st I L R → zAt p l e Rm s m args below meth c cells slots Z dC dI cA ad K n nL E A pc ls st I L R) (h : z_bast K pc nx rt cx ls st I L R) : zAt p l e Rm s m args below meth c cells slots Z dC dI cA ad K n nL E A pc ls st I L R := by
  unfold z_bast at h
  split at h
  · rename_i x i a r
    obtain ⟨k, j, h1, hi, hj, h⟩ := h
    intro hlen hE H locs lsA hl hP hD hS
    obtain ⟨hr, hk⟩ := hKn a (by rw [h1]; exact Nat.le_of_ble_eq_true rfl)
    rw [h1] at hk
    have he := zwl_at (cA := cA) (ad := ad) (K := K) (I := I) (L := L) (R := R) hr
    rw [zcel_i h1 (by decide) (by decide) (by decide)] at he
    obtain ⟨hin, hcl⟩ := zlt_i hi hj hk
    refine va_bast hx hb hK hP hD hS (a - 2) 2 he rfl hin hd (fun H1 locs1 hP1 hD1 hS1 => ?_)
    have hset : (zwl cA ad K n I L R).set (a - 2) (ad a, .inl (cA 22, k, .inl (upd (I a) i.toNatClampNeg (vp_nar .byte x)))) = zwl cA ad K n (zup I a j (vp_nar .byte x)) L R := by
      refine zwl_set hr ?_ (fun b hb => zcel_eq (fun q => zup_na _ _ _ _ hb) (fun q => rfl) (fun q => rfl))
      rw [zcel_i h1 (by decide) (by decide) (by decide), zrow, hcl]
      rfl
    rw [hset] at hP1 hD1
    exact hX _ _ _ _ _ _ h hlen (fun b hb2 q => by rw [zup_na _ _ _ _ (fun q => by rw [q, h1] at hb2; cases hb2)]; exact hE b hb2 q) H1 locs1 lsA hl hP1 hD1 hS1
  · exact h.elim
set_option maxHeartbeats 1000000 in
theorem sn_zast (hx : p.tables.exec = Jvm.exec) (hb : c.code = cc) (hK : va_K (dC, dI) zcls (ztys cA) s) (hKn : ∀ a, (K a).1 < 30 → (2 ≤ a ∧ a < n + 2) ∧ (K a).2 < 2 ^ 31) (hd : decode cc pc = .ok (.bastore, 1)) (hX : ∀ pc ls st I L R, nx pc ls st I L R → zAt p l e Rm s m args below meth c cells slots Z dC dI cA ad K n nL E A pc ls st I L R) (h : z_zast K pc nx rt cx ls st I L R) : zAt p l e Rm s m args below meth c cells slots Z dC dI cA ad K n nL E A pc ls st I L R := by
  unfold z_zast at h
  split at h
  · rename_i x i a r
    obtain ⟨k, j, h1, hi, hj, h⟩ := h
    intro hlen hE H locs lsA hl hP hD hS
    obtain ⟨hr, hk⟩ := hKn a (by rw [h1]; exact Nat.le_of_ble_eq_true rfl)
    rw [h1] at hk
    have he := zwl_at (cA := cA) (ad := ad) (K := K) (I := I) (L := L) (R := R) hr
    rw [zcel_i h1 (by decide) (by decide) (by decide)] at he
    obtain ⟨hin, hcl⟩ := zlt_i hi hj hk
    refine va_zast hx hb hK hP hD hS (a - 2) 3 he rfl hin hd (fun H1 locs1 hP1 hD1 hS1 => ?_)
    have hset : (zwl cA ad K n I L R).set (a - 2) (ad a, .inl (cA 23, k, .inl (upd (I a) i.toNatClampNeg (vp_nar .boolean x)))) = zwl cA ad K n (zup I a j (vp_nar .boolean x)) L R := by
      refine zwl_set hr ?_ (fun b hb => zcel_eq (fun q => zup_na _ _ _ _ hb) (fun q => rfl) (fun q => rfl))
      rw [zcel_i h1 (by decide) (by decide) (by decide), zrow, hcl]
      rfl
    rw [hset] at hP1 hD1
    exact hX _ _ _ _ _ _ h hlen (fun b hb2 q => by rw [zup_na _ _ _ _ (fun q => by rw [q, h1] at hb2; cases hb2)]; exact hE b hb2 q) H1 locs1 lsA hl hP1 hD1 hS1
  · exact h.elim
set_option maxHeartbeats 1000000 in
theorem sn_last (hx : p.tables.exec = Jvm.exec) (hb : c.code = cc) (hK : va_K (dC, dI) zcls (ztys cA) s) (hKn : ∀ a, (K a).1 < 30 → (2 ≤ a ∧ a < n + 2) ∧ (K a).2 < 2 ^ 31) (hd : decode cc pc = .ok (.lastore, 1)) (hX : ∀ pc ls st I L R, nx pc ls st I L R → zAt p l e Rm s m args below meth c cells slots Z dC dI cA ad K n nL E A pc ls st I L R) (h : z_last K pc nx rt cx ls st I L R) : zAt p l e Rm s m args below meth c cells slots Z dC dI cA ad K n nL E A pc ls st I L R := by
  unfold z_last at h
  split at h
  · rename_i x i a r
    obtain ⟨k, j, h1, hi, hj, h⟩ := h
    intro hlen hE H locs lsA hl hP hD hS
    obtain ⟨hr, hk⟩ := hKn a (by rw [h1]; exact Nat.le_of_ble_eq_true rfl)
    rw [h1] at hk
    have he := zwl_at (cA := cA) (ad := ad) (K := K) (I := I) (L := L) (R := R) hr
    rw [zcel_l h1] at he
    obtain ⟨hin, hcl⟩ := zlt_i hi hj hk
    refine va_last hx hb hK hP hD hS (a - 2) 1 he rfl hin hd (fun H1 locs1 hP1 hD1 hS1 => ?_)
    have hset : (zwl cA ad K n I L R).set (a - 2) (ad a, .inl (cA 21, k, .inr (.inl (vp_updL (L a) i.toNatClampNeg x)))) = zwl cA ad K n I (zup L a j x) R := by
      refine zwl_set hr ?_ (fun b hb => zcel_eq (fun q => rfl) (fun q => zup_na _ _ _ _ hb) (fun q => rfl))
      rw [zcel_l h1, zrow, hcl]
      rfl
    rw [hset] at hP1 hD1
    exact hX _ _ _ _ _ _ h hlen hE H1 locs1 lsA hl hP1 hD1 hS1
  · exact h.elim
set_option maxHeartbeats 1000000 in
theorem sn_alen (hx : p.tables.exec = Jvm.exec) (hb : c.code = cc) (hK : va_K (dC, dI) zcls (ztys cA) s) (hKn : ∀ a, (K a).1 < 30 → (2 ≤ a ∧ a < n + 2) ∧ (K a).2 < 2 ^ 31) (hd : decode cc pc = .ok (.arraylength, 1)) (hX : ∀ pc ls st I L R, nx pc ls st I L R → zAt p l e Rm s m args below meth c cells slots Z dC dI cA ad K n nL E A pc ls st I L R) (h : z_alen 20 K pc nx rt cx ls st I L R) : zAt p l e Rm s m args below meth c cells slots Z dC dI cA ad K n nL E A pc ls st I L R := by
  unfold z_alen at h
  split at h
  · rename_i a r
    obtain ⟨k, h1, h⟩ := h
    intro hlen hE H locs lsA hl hP hD hS
    obtain ⟨hr, hk⟩ := hKn a (by rw [h1]; exact Nat.le_of_ble_eq_true rfl)
    have he := zwl_at (cA := cA) (ad := ad) (K := K) (I := I) (L := L) (R := R) hr
    rw [zcel_i h1 (by decide) (by decide) (by decide)] at he
    exact va_alen (ty := .int) hx hb hK hP (a - 2) 0 he rfl rfl hd (hX _ _ _ _ _ _ h hlen hE H locs lsA hl hP hD hS)
  · exact h.elim
set_option maxHeartbeats 1000000 in
theorem sn_xald (hx : p.tables.exec = Jvm.exec) (hb : c.code = cc) (hT : ∀ a, (K a).1 = 30 → va_T .int (ad a) (K a).2 (fun j => .int (E a j)) A s s.heap ∧ (K a).2 < 2 ^ 31) (hd : decode cc pc = .ok (.iaload, 1)) (hX : ∀ pc ls st I L R, nx pc ls st I L R → zAt p l e Rm s m args below meth c cells slots Z dC dI cA ad K n nL E A pc ls st I L R) (h : z_iald 30 K pc nx rt cx ls st I L R) : zAt p l e Rm s m args below meth c cells slots Z dC dI cA ad K n nL E A pc ls st I L R := by
  unfold z_iald at h
  split at h
  · rename_i i a r
    obtain ⟨k, j, x, h1, hi, hj, h2, h⟩ := h
    intro hlen hE H locs lsA hl hP hD hS
    obtain ⟨hT1, hk⟩ := hT a (by rw [h1])
    rw [h1] at hT1 hk
    obtain ⟨hin, hcl⟩ := zlt_i hi hj hk
    refine va_ti hx hb hT1 hS hin (v := .int x) (by rw [hcl, ← h2, hE a (by rw [h1]) j]) hd ?_
    exact hX _ _ _ _ _ _ h hlen hE H locs lsA hl hP hD hS
  · exact h.elim
set_option maxHeartbeats 1000000 in
theorem sn_xlen (hx : p.tables.exec = Jvm.exec) (hb : c.code = cc) (hT : ∀ a, (K a).1 = 30 → va_T .int (ad a) (K a).2 (fun j => .int (E a j)) A s s.heap ∧ (K a).2 < 2 ^ 31) (hd : decode cc pc = .ok (.arraylength, 1)) (hX : ∀ pc ls st I L R, nx pc ls st I L R → zAt p l e Rm s m args below meth c cells slots Z dC dI cA ad K n nL E A pc ls st I L R) (h : z_alen 30 K pc nx rt cx ls st I L R) : zAt p l e Rm s m args below meth c cells slots Z dC dI cA ad K n nL E A pc ls st I L R := by
  unfold z_alen at h
  split at h
  · rename_i a r
    obtain ⟨k, h1, h⟩ := h
    intro hlen hE H locs lsA hl hP hD hS
    obtain ⟨hT1, hk⟩ := hT a (by rw [h1])
    rw [h1] at hT1 hk
    refine va_tlen hx hb hT1 hS rfl hd ?_
    exact hX _ _ _ _ _ _ h hlen hE H locs lsA hl hP hD hS
  · exact h.elim
set_option maxHeartbeats 1000000 in
theorem sn_gs (hx : p.tables.exec = Jvm.exec) (hb : c.code = cc) (hZ : va_Z "HummingSet" "MINUTES" "[I" (.ref (ad 1)) A s s.heap) (hown : s.vm.findClass own = some m.cls) {idx : Nat} (hlk : zfl own idx "HummingSet" "MINUTES" "[I" args s) (hd : decode cc pc = .ok (.getstatic idx, 3)) (hX : ∀ pc ls st I L R, nx pc ls st I L R → zAt p l e Rm s m args below meth c cells slots Z dC dI cA ad K n nL E A pc ls st I L R) (h : z_gs K pc nx rt cx ls st I L R) : zAt p l e Rm s m args below meth c cells slots Z dC dI cA ad K n nL E A pc ls st I L R := by
  intro hlen hE H locs lsA hl hP hD hS
  rcases hlk with hlk | ⟨host, hlk⟩
  · exact va_gets hx hb hZ hS hown hlk (fun _ q => q) hd (hX _ _ _ _ _ _ h hlen hE H locs lsA hl hP hD hS)
  · exact va_getsN hx hb hZ hS hown hlk (fun _ q => q) hd (hX _ _ _ _ _ _ h hlen hE H locs lsA hl hP hD hS)
/-- switches -/
theorem zsw_in {x : Int32} {d : Prop} {nx : Nat → Prop} : ∀ {qs : List (Int32 × Nat)} {t : Nat} {i : Nat}, zsw x d nx qs → (∀ j q, j < i → qs[j]? = some q → ¬ x = q.1) → qs[i]? = some (x, t) → nx t
  | [], t, i, _, _, h => by simp at h
  | q :: r, t, 0, h, _, hi => by
    simp at hi
    subst hi
    exact h.1 rfl
  | q :: r, t, i + 1, h, hn, hi => zsw_in (i := i) (h.2 (hn 0 q (by omega) rfl)) (fun j q' hj hq => hn (j + 1) q' (by omega) (by simpa using hq)) (by simpa using hi)
theorem zsw_out {x : Int32} {d : Prop} {nx : Nat → Prop} : ∀ {qs : List (Int32 × Nat)}, zsw x d nx qs → (∀ q ∈ qs, ¬ x = q.1) → d
  | [], h, _ => h
  | q :: r, h, hn => zsw_out (h.2 (hn q List.mem_cons_self)) (fun q' hq => hn q' (List.mem_cons_of_mem _ hq))
set_option maxHeartbeats 1000000 in
theorem sn_tsw (hx : p.tables.exec = Jvm.exec) (hb : c.code = cc) {d : Nat} {qs : List (Int32 × Nat)} {dflt lo hi : Int} {offs : Array Int} {len : Nat} (hd : decode cc pc = .ok (.tableswitch dflt lo hi offs, len)) (hdt : (pc : Int) + dflt = (d : Int)) (hlen2 : (qs.length : Int) = hi - lo + 1) (hq : ∀ (i : Nat) (q : Int32 × Nat), qs[i]? = some q → q.1.toInt = lo + i ∧ ∃ off, offs[i]? = some off ∧ (pc : Int) + off = (q.2 : Int)) (hX : ∀ pc ls st I L R, nx pc ls st I L R → zAt p l e Rm s m args below meth c cells slots Z dC dI cA ad K n nL E A pc ls st I L R) (h : z_sw d qs K pc nx rt cx ls st I L R) : zAt p l e Rm s m args below meth c cells slots Z dC dI cA ad K n nL E A pc ls st I L R := by
  unfold z_sw at h
  split at h
  · rename_i x r
    intro hlen hE H locs lsA hl hP hD hS
    by_cases ho : x.toInt < lo ∨ hi < x.toInt
    · refine lv_tableOut hx hb hd ho hdt ?_
      exact hX _ _ _ _ _ _ (zsw_out h (fun q hm e => by obtain ⟨i, hi⟩ := List.getElem?_of_mem hm; have e1 := (hq i q hi).1; have e2 := (List.getElem?_eq_some_iff.mp hi).1; rw [← e] at e1; omega)) hlen hE H locs lsA hl hP hD hS
    · have ho1 : ¬ x.toInt < lo := fun q => ho (Or.inl q)
      have ho2 : ¬ hi < x.toInt := fun q => ho (Or.inr q)
      have hl9 : (x.toInt - lo).toNat < qs.length := by omega
      obtain ⟨q, hqi⟩ : ∃ q, qs[(x.toInt - lo).toNat]? = some q := ⟨_, List.getElem?_eq_getElem hl9⟩
      obtain ⟨e1, off, e2, e3⟩ := hq _ q hqi
      refine lv_tableIn hx hb hd ho1 ho2 e2 e3 ?_
      have hxq : q.1 = x := Int32.toInt_inj.mp (by omega)
      exact hX _ _ _ _ _ _ (zsw_in (i := (x.toInt - lo).toNat) h (fun j q' hj hqj e => by have e4 := (hq j q' hqj).1; rw [← e] at e4; omega) (by rw [hqi, ← hxq])) hlen hE H locs lsA hl hP hD hS
  · exact h.elim
set_option maxHeartbeats 1000000 in
theorem sn_lsw (hx : p.tables.exec = Jvm.exec) (hb : c.code = cc) {d : Nat} {qs : List (Int32 × Nat)} {dflt : Int} {ps : Array (Int × Int)} {len : Nat} (hd : decode cc pc = .ok (.lookupswitch dflt ps, len)) (hps : (ps.toList.zip (ps.toList.drop 1)).all (fun (a, next) => a.1 < next.1) = true) (hdt : (pc : Int) + dflt = (d : Int)) (hq : ps.toList.map (fun q => (q.1, (pc : Int) + q.2)) = qs.map (fun q => (q.1.toInt, (q.2 : Int)))) (hX : ∀ pc ls st I L R, nx pc ls st I L R → zAt p l e Rm s m args below meth c cells slots Z dC dI cA ad K n nL E A pc ls st I L R) (h : z_sw d qs K pc nx rt cx ls st I L R) : zAt p l e Rm s m args below meth c cells slots Z dC dI cA ad K n nL E A pc ls st I L R := by
  unfold z_sw at h
  split at h
  · rename_i x r
    intro hlen hE H locs lsA hl hP hD hS
    have key : ∀ (ps : List (Int × Int)) (qs : List (Int32 × Nat)), ps.map (fun q => (q.1, (pc : Int) + q.2)) = qs.map (fun q => (q.1.toInt, (q.2 : Int))) → zsw x (nx d ls r I L R) (fun t => nx t ls r I L R) qs → ∃ t : Nat, (pc : Int) + Op.lookupswitch.offset ps dflt x.toInt = (t : Int) ∧ nx t ls r I L R := by
      intro ps
      induction ps with
      | nil =>
        intro qs e h
        cases qs with
        | nil => exact ⟨d, hdt, h⟩
        | cons q qr => simp at e
      | cons q pr ih =>
        intro qs e h
        cases qs with
        | nil => simp at e
        | cons q' qr =>
          simp only [List.map_cons, List.cons.injEq, Prod.mk.injEq] at e
          obtain ⟨⟨e1, e2⟩, e3⟩ := e
          by_cases hxq : x = q'.1
          · refine ⟨q'.2, ?_, h.1 hxq⟩
            obtain ⟨q1, q2⟩ := q
            have e4 : x.toInt = q1 := by rw [hxq]; exact e1.symm
            simp only [Op.lookupswitch.offset, e4, if_pos rfl]
            first | exact e2 | simpa using e2
          · obtain ⟨t, g1, g2⟩ := ih qr e3 (h.2 hxq)
            refine ⟨t, ?_, g2⟩
            obtain ⟨q1, q2⟩ := q
            rw [lv_osw hxq e1.symm]
            exact g1
    obtain ⟨t, g1, g2⟩ := key ps.toList qs hq h
    refine lv_lookup hx hb hd hps rfl g1 ?_
    exact hX _ _ _ _ _ _ g2 hlen hE H locs lsA hl hP hD hS
  · exact h.elim
end ZS
end
section
/-! ===== soundness: Math, returns, calls ===== -/
theorem zck_1 {ml : Nat} {as st : List Value} (ad : Nat → Nat) (h : zck ml as st = true) : ((st.map (zcv ad)).map fun v => v.category).sum ≤ 8 := by
  have h1 := (Bool.and_eq_true_iff.mp h).1
  have e : (st.map (zcv ad)).map (fun v => v.category) = st.map (fun v => v.category) := by
    rw [List.map_map]
    exact List.map_congr_left (fun v _ => zcv_cat ad v)
  rw [e]
  exact Nat.le_of_ble_eq_true h1
theorem zck_2 {ml : Nat} {as st : List Value} (h : zck ml as st = true) : (zsl as).length ≤ ml := Nat.le_of_ble_eq_true (Bool.and_eq_true_iff.mp h).2
theorem zent_len {ml : Nat} {as : List Value} (h : (zsl as).length ≤ ml) : (zent ml as).length = ml := by
  simp [zent]; omega
theorem zarg_eq : ∀ (na : Nat) (acc st as r : List Value), zarg na acc st = some (as, r) → ∃ bs, st = bs.reverse ++ r ∧ as = bs ++ acc ∧ bs.length = na
  | 0, acc, st, as, r, h => by
    simp only [zarg, Option.some.injEq, Prod.mk.injEq] at h
    exact ⟨[], by simp [h.2], by simp [h.1], rfl⟩
  | na + 1, acc, [], as, r, h => by simp [zarg] at h
  | na + 1, acc, v :: st, as, r, h => by
    obtain ⟨bs, h1, h2, h3⟩ := zarg_eq na (v :: acc) st as r h
    exact ⟨bs ++ [v], by simp [h1], by simp [h2], by simp [h3]⟩
theorem zsl_lg (ad : Nat → Nat) : ∀ (as : List Value), (lg_sl (as.map (zcv ad))).length = (zsl as).length
  | [] => rfl
  | v :: r => by
    have ih := zsl_lg ad r
    cases v <;> simp [lg_sl, zsl, zcv, Value.category] at ih ⊢ <;> omega
theorem zll_app_null (ad : Nat → Nat) : ∀ (as : List Value) (k j : Nat), zll ad k (as ++ List.replicate j .null) = zll ad k as
  | [], k, 0 => rfl
  | [], k, j + 1 => by
    show zll ad (k + 1) (List.replicate j .null) = []
    exact zll_app_null ad [] (k + 1) j
  | v :: r, k, j => by
    have ih := zll_app_null ad r (k + 1) j
    cases v <;> simp [zll, ih]
theorem zll_args (ad : Nat → Nat) : ∀ (as : List Value) (k : Nat), ∀ q ∈ zll ad k (zsl as), q ∈ lv_args k (as.map (zcv ad))
  | [], k, q, h => by simp [zsl, zll] at h
  | v :: r, k, q, h => by
    cases v with
    | long x =>
      have h : q ∈ (k, Value.long x) :: zll ad (k + 1 + 1) (zsl r) := h
      rcases List.mem_cons.mp h with h | h
      · exact List.mem_cons.mpr (Or.inl h)
      · exact List.mem_cons_of_mem _ (zll_args ad r (k + 2) q h)
    | double x =>
      have h : q ∈ (k, Value.double x) :: zll ad (k + 1 + 1) (zsl r) := h
      rcases List.mem_cons.mp h with h | h
      · exact List.mem_cons.mpr (Or.inl h)
      · exact List.mem_cons_of_mem _ (zll_args ad r (k + 2) q h)
    | null => exact List.mem_cons_of_mem _ (zll_args ad r (k + 1) q h)
    | int x =>
      have h : q ∈ (k, Value.int x) :: zll ad (k + 1) (zsl r) := h
      rcases List.mem_cons.mp h with h | h
      · exact List.mem_cons.mpr (Or.inl h)
      · exact List.mem_cons_of_mem _ (zll_args ad r (k + 1) q h)
    | float x =>
      have h : q ∈ (k, Value.float x) :: zll ad (k + 1) (zsl r) := h
      rcases List.mem_cons.mp h with h | h
      · exact List.mem_cons.mpr (Or.inl h)
      · exact List.mem_cons_of_mem _ (zll_args ad r (k + 1) q h)
    | ref x =>
      have h : q ∈ (k, Value.ref (ad x)) :: zll ad (k + 1) (zsl r) := h
      rcases List.mem_cons.mp h with h | h
      · exact List.mem_cons.mpr (Or.inl h)
      · exact List.mem_cons_of_mem _ (zll_args ad r (k + 1) q h)
    | retAddr x =>
      have h : q ∈ (k, Value.retAddr x) :: zll ad (k + 1) (zsl r) := h
      rcases List.mem_cons.mp h with h | h
      · exact List.mem_cons.mpr (Or.inl h)
      · exact List.mem_cons_of_mem _ (zll_args ad r (k + 1) q h)
/-- the locals at a method's entry -/
theorem zentry (ad : Nat → Nat) {ml : Nat} {as : List Value} (h : (zsl as).length ≤ ml) : lv_has ((lg_sl (as.map (zcv ad)) ++ List.replicate (ml - (lg_sl (as.map (zcv ad))).length) Slot.unset).toArray) ml (zll ad 0 (zent ml as)) := by
  have hl := lv_entry (as.map (zcv ad)) (n := ml) (by rw [zsl_lg]; exact h)
  refine ⟨hl.1, hl.2.1, fun q hq => hl.2.2 q ?_⟩
  rw [zent, zll_app_null] at hq
  exact zll_args ad as 0 q hq
/-- how a return instruction stands -/
def zisR (cc : ByteArray) (rty : Option FieldType) (pc : Nat) (v : Option Value) : Prop :=
  (∃ x, v = some (.int x) ∧ decode cc pc = .ok (.ireturn, 1) ∧ rty = some .int) ∨ (∃ x, v = some (.int x) ∧ (x = 0 ∨ x = 1) ∧ decode cc pc = .ok (.ireturn, 1) ∧ rty = some .boolean) ∨ (∃ x, v = some (.long x) ∧ decode cc pc = .ok (.lreturn, 1) ∧ rty = some .long) ∨ (v = none ∧ decode cc pc = .ok (.return_, 1) ∧ rty = none)
/-- the world, of a state -/
def zWd (dC : Nat → ClassId) (dI : Nat → Nat → Nat) (cA : Nat → ClassId) (ad : Nat → Nat) (K : ZKh) (n : Nat) (E : ZMi) (A : Nat → Prop) (U : State) : Prop :=
  va_K (dC, dI) zcls (ztys cA) U ∧ (∀ w ∈ zNW, va_Nw w U) ∧ (∀ a, (K a).1 = 30 → va_T .int (ad a) (K a).2 (fun j => .int (E a j)) A U U.heap ∧ (K a).2 < 2 ^ 31) ∧ va_Z "HummingSet" "MINUTES" "[I" (.ref (ad 1)) A U U.heap
/-- what a method leaves -/
def zQ (dC : Nat → ClassId) (dI : Nat → Nat → Nat) (cA : Nat → ClassId) (ad : Nat → Nat) (K : ZKh) (n : Nat) (E : ZMi) (A : Nat → Prop) (Q : ZRt) : Array Value → State → Outcome → State → Prop := fun _ st oc t => (∃ (v : Option Value) (I : ZMi) (L : ZMl) (R : ZMr), oc = .returned (v.map (zcv ad)) ∧ Q v I L R ∧ zext K E I ∧ va_P (dC, dI) zcls (zwl cA ad K n I L R) t.heap ∧ va_D A (zwl cA ad K n I L R)) ∧ va_F A st t
section ZS
variable {p : Program} {l : Launch} {e : Env} {Rm : Room} {s : State} {m : MethodId} {args : Array Value} {below : List Frame} {meth : Method} {c : Code} {cells slots : Nat} {Z : State → Prop}
variable {cc : ByteArray} {pc : Nat} {dC : Nat → ClassId} {dI : Nat → Nat → Nat} {cA : Nat → ClassId} {ad : Nat → Nat} {K : ZKh} {n nL : Nat} {E : ZMi} {A : Nat → Prop} {own : String}
variable {nx : ZNx} {rt : ZRt} {cx : ZCx} {ls st : List Value} {I : ZMi} {L : ZMl} {R : ZMr}
set_option maxHeartbeats 1000000 in
theorem sn_mmax (hx : p.tables.exec = Jvm.exec) (hb : c.code = cc) (hml : c.maxLocals = nL) (hown : s.vm.findClass own = some m.cls) {idx : Nat} (hlk : (Cond.methodLink own idx Lib.Math.max.name).before args s = true) (hst : (Cond.static Lib.Math.max.name).before args s = true) (hin : (Cond.initialized "java/lang/Math").before args s = true) (hcd : (Cond.code Lib.Math.max.name Lib.Math.max.code 2 (some .int)).before args s = true) (hf : 1 ≤ Rm.frames) (hlo : 40 ≤ Rm.locals) (hce : cells ≤ Rm.cells) (hsl : slots ≤ Rm.slots) (hd : decode cc pc = .ok (.invokestatic idx, 3)) (hX : ∀ pc ls st I L R, nx pc ls st I L R → zAt p l e Rm s m args below meth c cells slots Z dC dI cA ad K n nL E A pc ls st I L R) (h : z_mmax K pc nx rt cx ls st I L R) : zAt p l e Rm s m args below meth c cells slots Z dC dI cA ad K n nL E A pc ls st I L R := by
  unfold z_mmax at h
  split at h
  · intro hlen hE H locs lsA hl hP hD hS
    have hk := zck_1 ad h.1
    exact va_mmax hx hb (by rw [hml]; exact hl.1.symm) hown hlk hst hin hcd hf (by omega) hce hsl hd (hX _ _ _ _ _ _ h.2 hlen hE H locs lsA hl hP hD hS)
  · exact h.elim
set_option maxHeartbeats 1000000 in
theorem sn_mmin (hx : p.tables.exec = Jvm.exec) (hb : c.code = cc) (hml : c.maxLocals = nL) (hown : s.vm.findClass own = some m.cls) {idx : Nat} (hlk : (Cond.methodLink own idx Lib.Math.min.name).before args s = true) (hst : (Cond.static Lib.Math.min.name).before args s = true) (hin : (Cond.initialized "java/lang/Math").before args s = true) (hcd : (Cond.code Lib.Math.min.name Lib.Math.min.code 2 (some .int)).before args s = true) (hf : 1 ≤ Rm.frames) (hlo : 40 ≤ Rm.locals) (hce : cells ≤ Rm.cells) (hsl : slots ≤ Rm.slots) (hd : decode cc pc = .ok (.invokestatic idx, 3)) (hX : ∀ pc ls st I L R, nx pc ls st I L R → zAt p l e Rm s m args below meth c cells slots Z dC dI cA ad K n nL E A pc ls st I L R) (h : z_mmin K pc nx rt cx ls st I L R) : zAt p l e Rm s m args below meth c cells slots Z dC dI cA ad K n nL E A pc ls st I L R := by
  unfold z_mmin at h
  split at h
  · intro hlen hE H locs lsA hl hP hD hS
    have hk := zck_1 ad h.1
    exact va_mmin hx hb (by rw [hml]; exact hl.1.symm) hown hlk hst hin hcd hf (by omega) hce hsl hd (hX _ _ _ _ _ _ h.2 hlen hE H locs lsA hl hP hD hS)
  · exact h.elim
set_option maxHeartbeats 1000000 in
theorem sn_mabs (hx : p.tables.exec = Jvm.exec) (hb : c.code = cc) (hml : c.maxLocals = nL) (hown : s.vm.findClass own = some m.cls) {idx : Nat} (hlk : (Cond.methodLink own idx Lib.Math.abs.name).before args s = true) (hst : (Cond.static Lib.Math.abs.name).before args s = true) (hin : (Cond.initialized "java/lang/Math").before args s = true) (hcd : (Cond.code Lib.Math.abs.name Lib.Math.abs.code 1 (some .int)).before args s = true) (hf : 1 ≤ Rm.frames) (hlo : 40 ≤ Rm.locals) (hce : cells ≤ Rm.cells) (hsl : slots ≤ Rm.slots) (hd : decode cc pc = .ok (.invokestatic idx, 3)) (hX : ∀ pc ls st I L R, nx pc ls st I L R → zAt p l e Rm s m args below meth c cells slots Z dC dI cA ad K n nL E A pc ls st I L R) (h : z_mabs K pc nx rt cx ls st I L R) : zAt p l e Rm s m args below meth c cells slots Z dC dI cA ad K n nL E A pc ls st I L R := by
  unfold z_mabs at h
  split at h
  · intro hlen hE H locs lsA hl hP hD hS
    have hk := zck_1 ad h.1
    exact va_mabs hx hb (by rw [hml]; exact hl.1.symm) hown hlk hst hin hcd hf (by omega) hce hsl hd (hX _ _ _ _ _ _ h.2 hlen hE H locs lsA hl hP hD hS)
  · exact h.elim
set_option maxHeartbeats 1000000 in
theorem sn_mmaxl (hx : p.tables.exec = Jvm.exec) (hb : c.code = cc) (hml : c.maxLocals = nL) (hown : s.vm.findClass own = some m.cls) {idx : Nat} (hlk : (Cond.methodLink own idx Lib.MathLoose.max_long.x).before args s = true) (hst : (Cond.static Lib.MathLoose.max_long.x).before args s = true) (hin : (Cond.initialized "java/lang/Math").before args s = true) (hcd : (Cond.code Lib.MathLoose.max_long.x Lib.MathLoose.max_long.code 4 (some .long)).before args s = true) (hf : 1 ≤ Rm.frames) (hlo : 40 ≤ Rm.locals) (hce : cells ≤ Rm.cells) (hsl : slots ≤ Rm.slots) (hd : decode cc pc = .ok (.invokestatic idx, 3)) (hX : ∀ pc ls st I L R, nx pc ls st I L R → zAt p l e Rm s m args below meth c cells slots Z dC dI cA ad K n nL E A pc ls st I L R) (h : z_mmaxl K pc nx rt cx ls st I L R) : zAt p l e Rm s m args below meth c cells slots Z dC dI cA ad K n nL E A pc ls st I L R := by
  unfold z_mmaxl at h
  split at h
  · intro hlen hE H locs lsA hl hP hD hS
    have hk := zck_1 ad h.1
    exact va_mmax_long hx hb (by rw [hml]; exact hl.1.symm) hown hlk hst hin hcd hf (by omega) hce hsl hd (hX _ _ _ _ _ _ h.2 hlen hE H locs lsA hl hP hD hS)
  · exact h.elim
theorem sn_ir {rty : Option FieldType} (hR : ∀ pc v ls I L R, rt v I L R → zisR cc rty pc v → zAt p l e Rm s m args below meth c cells slots Z dC dI cA ad K n nL E A pc ls v.toList I L R) (hd : decode cc pc = .ok (.ireturn, 1)) (hr : rty = some .int) (h : z_ir K pc nx rt cx ls st I L R) : zAt p l e Rm s m args below meth c cells slots Z dC dI cA ad K n nL E A pc ls st I L R := by
  unfold z_ir at h
  split at h
  · exact hR pc _ ls I L R h (Or.inl ⟨_, rfl, hd, hr⟩)
  · exact h.elim
theorem sn_zr {rty : Option FieldType} (hR : ∀ pc v ls I L R, rt v I L R → zisR cc rty pc v → zAt p l e Rm s m args below meth c cells slots Z dC dI cA ad K n nL E A pc ls v.toList I L R) (hd : decode cc pc = .ok (.ireturn, 1)) (hr : rty = some .boolean) (h : z_zr K pc nx rt cx ls st I L R) : zAt p l e Rm s m args below meth c cells slots Z dC dI cA ad K n nL E A pc ls st I L R := by
  unfold z_zr at h
  split at h
  · exact hR pc _ ls I L R h.2 (Or.inr (Or.inl ⟨_, rfl, h.1, hd, hr⟩))
  · exact h.elim
theorem sn_lr {rty : Option FieldType} (hR : ∀ pc v ls I L R, rt v I L R → zisR cc rty pc v → zAt p l e Rm s m args below meth c cells slots Z dC dI cA ad K n nL E A pc ls v.toList I L R) (hd : decode cc pc = .ok (.lreturn, 1)) (hr : rty = some .long) (h : z_lr K pc nx rt cx ls st I L R) : zAt p l e Rm s m args below meth c cells slots Z dC dI cA ad K n nL E A pc ls st I L R := by
  unfold z_lr at h
  split at h
  · exact hR pc _ ls I L R h (Or.inr (Or.inr (Or.inl ⟨_, rfl, hd, hr⟩)))
  · exact h.elim
theorem sn_vr {rty : Option FieldType} (hR : ∀ pc v ls I L R, rt v I L R → zisR cc rty pc v → zAt p l e Rm s m args below meth c cells slots Z dC dI cA ad K n nL E A pc ls v.toList I L R) (hd : decode cc pc = .ok (.return_, 1)) (hr : rty = none) (h : z_vr K pc nx rt cx ls st I L R) : zAt p l e Rm s m args below meth c cells slots Z dC dI cA ad K n nL E A pc ls st I L R := by
  unfold z_vr at h
  split at h
  · exact hR pc _ ls I L R h (Or.inr (Or.inr (Or.inr ⟨rfl, hd, hr⟩)))
  · exact h.elim
/-- the end of a method's frame -/
theorem zret (hx : p.tables.exec = Jvm.exec) (hb : c.code = cc) (hlocks : meth.locks = false) {rty : Option FieldType} (hr : meth.sig.returnType = rty) {Q : ZRt} (pc : Nat) (v : Option Value) (ls : List Value) (I : ZMi) (L : ZMl) (R : ZMr) (hq : Q v I L R) (hi : zisR cc rty pc v) :
    zAt p l e Rm s m args below meth c cells slots (MQ below (zQ dC dI cA ad K n E A Q) args s cells slots A) dC dI cA ad K n nL E A pc ls v.toList I L R := by
  intro hlen hE H locs lsA hl hP hD hS
  have key : ∀ t : State, t.heap = H → zQ dC dI cA ad K n E A Q args s (.returned (v.map (zcv ad))) t := fun t ht => ⟨⟨v, I, L, R, rfl, hq, hE, by rw [ht]; exact hP, hD⟩, hS.F ht⟩
  rcases hi with ⟨x, rfl, hd, hy⟩ | ⟨x, rfl, h01, hd, hy⟩ | ⟨x, rfl, hd, hy⟩ | ⟨rfl, hd, hy⟩
  · exact W.iret (v := x) hx hb (hr.trans hy) (fun t ht _ => key t ht) hS.2.2 hd hlocks
  · exact W.zret (v := x) hx hb (hr.trans hy) (by rcases h01 with h | h <;> rw [h] <;> rfl) (fun t ht _ => key t ht) hS.2.2 hd hlocks
  · exact W.lret (v := x) hx hb (hr.trans hy) (fun t ht _ => key t ht) hS.2.2 hd hlocks
  · exact W.vret hx hb (hr.trans hy) (fun t ht _ => key t ht) hS.2.2 hd hlocks
/-- behind a call -/
theorem zcall {H : Heap} {locs : List Loc} {lsA : Array Slot} {st0 rest : List Value} {Q : ZRt} {a : Array Value} (hr : va_Run p l e Rm s m args below meth c H locs cells slots 0 0 (F0 m pc lsA st0) (rest.map (zcv ad)) (zQ dC dI cA ad K n E A Q a) A) (hlen : ls.length = nL) (hl : lv_has lsA nL (zll ad 0 ls)) (hS : va_S A s.heap H locs)
    (kk : ∀ (v : Option Value) (I : ZMi) (L : ZMl) (R : ZMr), Q v I L R → zAt p l e Rm s m args below meth c cells slots Z dC dI cA ad K n nL E A (pc + 3) ls (v.toList ++ rest) I L R) : W p l e Rm s m args below meth c H locs cells slots Z (F0 m pc lsA st0) := by
  intro T hT X
  obtain ⟨v, st₀, t, T', L9, h0, X', hL, e1, e2, ⟨⟨v', I, L, R, hv, hq, hE, hP, hD⟩, hz, hk⟩, st⟩ := hr T hT X
  cases hv
  rw [h0] at hz hk
  have hS1 : va_S A s.heap T'.heap (locs ++ L9) := ⟨Nat.le_trans hS.1 (by rw [e1]; exact hz), fun q h1 h2 => by rw [e1, hk q (Nat.lt_of_lt_of_le h1 hS.1) h2]; exact hS.2.1 q h1 h2, fun q hq => by
      rcases List.mem_append.mp hq with h | h
      · exact hS.2.2 q h
      · exact hL q h⟩
  obtain ⟨t2, a1, b1⟩ := kk v' I L R hq hlen hE T'.heap (locs ++ L9) lsA hl (by rw [e1]; exact hP) hD hS1 T' rfl X'
  refine ⟨t2, st t2 ?_, b1⟩
  have e9 : (v'.map (zcv ad)).toList ++ rest.map (zcv ad) = (v'.toList ++ rest).map (zcv ad) := by cases v' <;> simp
  show Steps p.tables e below (T'.setTop { F0 m pc lsA st0 with pc := pc + 3, stack := (v'.map (zcv ad)).toList ++ rest.map (zcv ad) }) t2
  rw [e9]
  exact a1
end ZS
end
section
/-! ===== the methods: name, bytes, locals, return type, rank ===== -/
def zy0 : MethodName := ⟨"HummingSet$Answers", "<init>", "()V"⟩
def zy1 : MethodName := ⟨"HummingSet$Answers", "add", "(IIII)V"⟩
def zy2 : MethodName := ⟨"HummingSet$Answers", "copyFrom", "(LHummingSet$Answers;)V"⟩
def zy3 : MethodName := ⟨"HummingSet$Bench", "<init>", "()V"⟩
def zy4 : MethodName := ⟨"HummingSet$Bench", "play", "(LHummingSet$Wireless;IIII)V"⟩
def zy5 : MethodName := ⟨"HummingSet$Bench", "comeIn", "(LHummingSet$Wireless;II)V"⟩
def zy6 : MethodName := ⟨"HummingSet$Bench", "tonesHeard", "(LHummingSet$Wireless;)I"⟩
def zy7 : MethodName := ⟨"HummingSet$Bench", "loudness", "()I"⟩
def zy8 : MethodName := ⟨"HummingSet$Bench", "magnitude", "([I)I"⟩
def zy9 : MethodName := ⟨"HummingSet$Bench", "reply", "(LHummingSet$Wireless;IIII)I"⟩
def zy10 : MethodName := ⟨"HummingSet$Bench", "acrossState", "(LHummingSet$Wireless;II)I"⟩
def zy11 : MethodName := ⟨"HummingSet$Cases", "<init>", "()V"⟩
def zy12 : MethodName := ⟨"HummingSet$Cases", "fill", "(LHummingSet$Wireless;)V"⟩
def zy13 : MethodName := ⟨"HummingSet$Cases", "add", "(IJ)V"⟩
def zy14 : MethodName := ⟨"HummingSet$Cases", "narrow", "(LHummingSet$Wireless;LHummingSet$Bench;LHummingSet$Answers;I)V"⟩
def zy15 : MethodName := ⟨"HummingSet$Cases", "weightWith", "(I)J"⟩
def zy16 : MethodName := ⟨"HummingSet$Cases", "heaviest", "()I"⟩
def zy17 : MethodName := ⟨"HummingSet$Part", "<init>", "()V"⟩
def zy18 : MethodName := ⟨"HummingSet$Part", "voltsLess", "(I)I"⟩
def zy19 : MethodName := ⟨"HummingSet$Part", "voltsAfter", "(I)I"⟩
def zy20 : MethodName := ⟨"HummingSet$Part", "minuteBelowShock", "()I"⟩
def zy21 : MethodName := ⟨"HummingSet$Plan", "<init>", "()V"⟩
def zy22 : MethodName := ⟨"HummingSet$Plan", "learn", "(LHummingSet$Wireless;LHummingSet$Bench;)V"⟩
def zy23 : MethodName := ⟨"HummingSet$Plan", "noisyWeight", "(LHummingSet$Cases;I)J"⟩
def zy24 : MethodName := ⟨"HummingSet$Plan", "cheapest", "(LHummingSet$Wireless;LHummingSet$Cases;I)I"⟩
def zy25 : MethodName := ⟨"HummingSet$Plan", "row", "(LHummingSet$Wireless;LHummingSet$Cases;)V"⟩
def zy26 : MethodName := ⟨"HummingSet$Plan", "goOn", "(LHummingSet$Wireless;IJ)V"⟩
def zy27 : MethodName := ⟨"HummingSet$Reader", "<init>", "()V"⟩
def zy28 : MethodName := ⟨"HummingSet$Reader", "read", "(LHummingSet$Text;LHummingSet$Wireless;)I"⟩
def zy29 : MethodName := ⟨"HummingSet$Reader", "readItem", "(LHummingSet$Text;LHummingSet$Wireless;)Z"⟩
def zy30 : MethodName := ⟨"HummingSet$Reader", "numbersOf", "(I)I"⟩
def zy31 : MethodName := ⟨"HummingSet$Reader", "readNumber", "(LHummingSet$Text;I)Z"⟩
def zy32 : MethodName := ⟨"HummingSet$Reader", "takeItem", "(ILHummingSet$Wireless;)Z"⟩
def zy33 : MethodName := ⟨"HummingSet$Search", "<init>", "()V"⟩
def zy34 : MethodName := ⟨"HummingSet$Search", "find", "(LHummingSet$Wireless;LHummingSet$Bench;LHummingSet$Cases;I)V"⟩
def zy35 : MethodName := ⟨"HummingSet$Search", "isBetter", "(IJI)Z"⟩
def zy36 : MethodName := ⟨"HummingSet$Search", "minutesOf", "(I)I"⟩
def zy37 : MethodName := ⟨"HummingSet$Search", "worstOf", "(LHummingSet$Wireless;LHummingSet$Bench;LHummingSet$Cases;III)J"⟩
def zy38 : MethodName := ⟨"HummingSet$Stage", "<init>", "()V"⟩
def zy39 : MethodName := ⟨"HummingSet$Text", "<init>", "()V"⟩
def zy40 : MethodName := ⟨"HummingSet$Text", "hasRoom", "(I)Z"⟩
def zy41 : MethodName := ⟨"HummingSet$Text", "append", "(IJ)V"⟩
def zy42 : MethodName := ⟨"HummingSet$Text", "at", "(I)I"⟩
def zy43 : MethodName := ⟨"HummingSet$Way", "<init>", "()V"⟩
def zy44 : MethodName := ⟨"HummingSet$Wireless", "<init>", "()V"⟩
def zy45 : MethodName := ⟨"HummingSet$Wireless", "clear", "()V"⟩
def zy46 : MethodName := ⟨"HummingSet$Wireless", "hasStage", "(I)Z"⟩
def zy47 : MethodName := ⟨"HummingSet$Wireless", "hasPart", "(I)Z"⟩
def zy48 : MethodName := ⟨"HummingSet$Wireless", "hasState", "(I)Z"⟩
def zy49 : MethodName := ⟨"HummingSet$Wireless", "hasAsk", "(II)Z"⟩
def zy50 : MethodName := ⟨"HummingSet$Wireless", "asksOf", "(I)I"⟩
def zy51 : MethodName := ⟨"HummingSet$Wireless", "takeStage", "(II)Z"⟩
def zy52 : MethodName := ⟨"HummingSet$Wireless", "takePart", "(IIIII)Z"⟩
def zy53 : MethodName := ⟨"HummingSet$Wireless", "takeLet", "(III)Z"⟩
def zy54 : MethodName := ⟨"HummingSet$Wireless", "takeMains", "(III)Z"⟩
def zy55 : MethodName := ⟨"HummingSet$Wireless", "takeCost", "(II)Z"⟩
def zy56 : MethodName := ⟨"HummingSet$Wireless", "takeWay", "(III)Z"⟩
def zy57 : MethodName := ⟨"HummingSet$Wireless", "takeEar", "(II)Z"⟩
def zy58 : MethodName := ⟨"HummingSet$Wireless", "takeYearly", "(II)Z"⟩
def zy59 : MethodName := ⟨"HummingSet$Wireless", "takeVolts", "(III)Z"⟩
def zy60 : MethodName := ⟨"HummingSet$Wireless", "riskOf", "(II)I"⟩
def zy61 : MethodName := ⟨"HummingSet$Wireless", "someBearsTooMuch", "(I)Z"⟩
def zy62 : MethodName := ⟨"HummingSet$Wireless", "someHoldsMuch", "(I)Z"⟩
def zy63 : MethodName := ⟨"HummingSet$Wireless", "minuteOfNoShock", "()I"⟩
def zy64 : MethodName := ⟨"HummingSet$Wireless", "weightOf", "(I)J"⟩
def zy65 : MethodName := ⟨"HummingSet$Wireless", "costOf", "(I)I"⟩
def zy66 : MethodName := ⟨"HummingSet$Wireless", "tonesHowling", "()I"⟩
def zy67 : MethodName := ⟨"HummingSet$Wireless", "bringsItsOwn", "(LHummingSet$Way;)Z"⟩
def zy68 : MethodName := ⟨"HummingSet$Wireless", "goneOf", "(II)I"⟩
def zy69 : MethodName := ⟨"HummingSet", "<init>", "()V"⟩
def zy70 : MethodName := ⟨"HummingSet", "write", "(IJ)I"⟩
def zy71 : MethodName := ⟨"HummingSet", "wipe", "()I"⟩
def zy72 : MethodName := ⟨"HummingSet", "fault", "()I"⟩
def zy73 : MethodName := ⟨"HummingSet", "lay", "()I"⟩
def zy74 : MethodName := ⟨"HummingSet", "part", "(II)I"⟩
def zy75 : MethodName := ⟨"HummingSet", "hum", "(III)I"⟩
def zy76 : MethodName := ⟨"HummingSet", "in", "(IIII)I"⟩
def zy77 : MethodName := ⟨"HummingSet", "heard", "(III)I"⟩
def zy78 : MethodName := ⟨"HummingSet", "ask", "(IIII)I"⟩
def zy79 : MethodName := ⟨"HummingSet", "risk", "(II)I"⟩
def zy80 : MethodName := ⟨"HummingSet", "volts", "(II)I"⟩
def zy81 : MethodName := ⟨"HummingSet", "safe", "()I"⟩
def zy82 : MethodName := ⟨"HummingSet", "answer", "(IIII)I"⟩
def zy83 : MethodName := ⟨"HummingSet", "forget", "()I"⟩
def zy84 : MethodName := ⟨"HummingSet", "possible", "(I)J"⟩
def zy85 : MethodName := ⟨"HummingSet", "odds", "(II)J"⟩
def zy86 : MethodName := ⟨"HummingSet", "likeliest", "()I"⟩
def zy87 : MethodName := ⟨"HummingSet", "next", "(II)J"⟩
def zy88 : MethodName := ⟨"HummingSet", "change", "(II)I"⟩
def zy89 : MethodName := ⟨"HummingSet", "oneByOne", "(I)J"⟩
def zy90 : MethodName := ⟨"HummingSet", "louder", "(I)I"⟩
def zy91 : MethodName := ⟨"HummingSet", "howls", "()I"⟩
def zy92 : MethodName := ⟨"HummingSet", "goes", "(II)I"⟩
def zy93 : MethodName := ⟨"HummingSet", "nextToGo", "(I)I"⟩
def zy94 : MethodName := ⟨"HummingSet", "set", "(I)I"⟩
def zy95 : MethodName := ⟨"HummingSet", "keep", "()I"⟩
def zy96 : MethodName := ⟨"HummingSet", "back", "()I"⟩
def zy97 : MethodName := ⟨"HummingSet", "count", "(I)I"⟩
def zy98 : MethodName := ⟨"HummingSet", "weighAnew", "()V"⟩
def zy99 : MethodName := ⟨"HummingSet", "loudWarm", "(I)I"⟩
def zy100 : MethodName := ⟨"HummingSet", "within", "(III)Z"⟩
def zy101 : MethodName := ⟨"HummingSet", "isTone", "(I)Z"⟩
def zy102 : MethodName := ⟨"HummingSet", "isMinute", "(I)Z"⟩
def zy103 : MethodName := ⟨"HummingSet", "commonDivisor", "(JJ)J"⟩
def zy104 : MethodName := ⟨"HummingSetModel", "<init>", "()V"⟩
def zy105 : MethodName := ⟨"HummingSetModel", "isIn", "(JJJ)Z"⟩
def zy106 : MethodName := ⟨"HummingSetModel", "has", "(II)Z"⟩
def zy107 : MethodName := ⟨"HummingSetModel", "up", "(I)I"⟩
def zy108 : MethodName := ⟨"HummingSetModel", "noPart", "(I)V"⟩
def zy109 : MethodName := ⟨"HummingSetModel", "noSet", "(I)V"⟩
def zy110 : MethodName := ⟨"HummingSetModel", "write", "(IJ)I"⟩
def zy111 : MethodName := ⟨"HummingSetModel", "wipe", "()I"⟩
def zy112 : MethodName := ⟨"HummingSetModel", "byteAt", "(I)I"⟩
def zy113 : MethodName := ⟨"HummingSetModel", "figures", "(I)Z"⟩
def zy114 : MethodName := ⟨"HummingSetModel", "isPartTold", "()Z"⟩
def zy115 : MethodName := ⟨"HummingSetModel", "isStageTold", "()Z"⟩
def zy116 : MethodName := ⟨"HummingSetModel", "stageItem", "()Z"⟩
def zy117 : MethodName := ⟨"HummingSetModel", "partItem", "()Z"⟩
def zy118 : MethodName := ⟨"HummingSetModel", "letItem", "()Z"⟩
def zy119 : MethodName := ⟨"HummingSetModel", "comeItem", "()Z"⟩
def zy120 : MethodName := ⟨"HummingSetModel", "wayItem", "()Z"⟩
def zy121 : MethodName := ⟨"HummingSetModel", "item", "()Z"⟩
def zy122 : MethodName := ⟨"HummingSetModel", "readAll", "()I"⟩
def zy123 : MethodName := ⟨"HummingSetModel", "fault", "()I"⟩
def zy124 : MethodName := ⟨"HummingSetModel", "lay", "()I"⟩
def zy125 : MethodName := ⟨"HummingSetModel", "isStage", "(I)Z"⟩
def zy126 : MethodName := ⟨"HummingSetModel", "isPart", "(I)Z"⟩
def zy127 : MethodName := ⟨"HummingSetModel", "isState", "(I)Z"⟩
def zy128 : MethodName := ⟨"HummingSetModel", "isTime", "(I)Z"⟩
def zy129 : MethodName := ⟨"HummingSetModel", "part", "(II)I"⟩
def zy130 : MethodName := ⟨"HummingSetModel", "inOf", "(IIIIII)I"⟩
def zy131 : MethodName := ⟨"HummingSetModel", "endOf", "(IIIII)I"⟩
def zy132 : MethodName := ⟨"HummingSetModel", "heardOf", "(IIII)I"⟩
def zy133 : MethodName := ⟨"HummingSetModel", "loudOf", "(I)I"⟩
def zy134 : MethodName := ⟨"HummingSetModel", "hum", "(III)I"⟩
def zy135 : MethodName := ⟨"HummingSetModel", "in", "(IIII)I"⟩
def zy136 : MethodName := ⟨"HummingSetModel", "heard", "(III)I"⟩
def zy137 : MethodName := ⟨"HummingSetModel", "isAsk", "(II)Z"⟩
def zy138 : MethodName := ⟨"HummingSetModel", "askOf0", "(IIII)I"⟩
def zy139 : MethodName := ⟨"HummingSetModel", "ask", "(IIII)I"⟩
def zy140 : MethodName := ⟨"HummingSetModel", "riskOf", "(II)I"⟩
def zy141 : MethodName := ⟨"HummingSetModel", "risk", "(II)I"⟩
def zy142 : MethodName := ⟨"HummingSetModel", "voltsOf", "(II)I"⟩
def zy143 : MethodName := ⟨"HummingSetModel", "volts", "(II)I"⟩
def zy144 : MethodName := ⟨"HummingSetModel", "safe", "()I"⟩
def zy145 : MethodName := ⟨"HummingSetModel", "bits", "(I)I"⟩
def zy146 : MethodName := ⟨"HummingSetModel", "weightOf", "(I)J"⟩
def zy147 : MethodName := ⟨"HummingSetModel", "fits", "(I)Z"⟩
def zy148 : MethodName := ⟨"HummingSetModel", "layStates", "()V"⟩
def zy149 : MethodName := ⟨"HummingSetModel", "weightOfAll", "()J"⟩
def zy150 : MethodName := ⟨"HummingSetModel", "answer", "(IIII)I"⟩
def zy151 : MethodName := ⟨"HummingSetModel", "forget", "()I"⟩
def zy152 : MethodName := ⟨"HummingSetModel", "possible", "(I)J"⟩
def zy153 : MethodName := ⟨"HummingSetModel", "common", "(JJ)J"⟩
def zy154 : MethodName := ⟨"HummingSetModel", "odds", "(II)J"⟩
def zy155 : MethodName := ⟨"HummingSetModel", "likeliest", "()I"⟩
def zy156 : MethodName := ⟨"HummingSetModel", "worstOf", "(III)J"⟩
def zy157 : MethodName := ⟨"HummingSetModel", "minutesOf", "(I)I"⟩
def zy158 : MethodName := ⟨"HummingSetModel", "next", "(II)J"⟩
def zy159 : MethodName := ⟨"HummingSetModel", "isQuiet", "(I)Z"⟩
def zy160 : MethodName := ⟨"HummingSetModel", "costOf", "(I)I"⟩
def zy161 : MethodName := ⟨"HummingSetModel", "change", "(II)I"⟩
def zy162 : MethodName := ⟨"HummingSetModel", "hums", "(I)J"⟩
def zy163 : MethodName := ⟨"HummingSetModel", "layRows", "()V"⟩
def zy164 : MethodName := ⟨"HummingSetModel", "oneByOne", "(I)J"⟩
def zy165 : MethodName := ⟨"HummingSetModel", "louder", "(I)I"⟩
def zy166 : MethodName := ⟨"HummingSetModel", "howls", "()I"⟩
def zy167 : MethodName := ⟨"HummingSetModel", "goesOf", "(II)I"⟩
def zy168 : MethodName := ⟨"HummingSetModel", "goes", "(II)I"⟩
def zy169 : MethodName := ⟨"HummingSetModel", "nextToGo", "(I)I"⟩
def zy170 : MethodName := ⟨"HummingSetModel", "set", "(I)I"⟩
def zy171 : MethodName := ⟨"HummingSetModel", "copy", "(II)V"⟩
def zy172 : MethodName := ⟨"HummingSetModel", "keep", "()I"⟩
def zy173 : MethodName := ⟨"HummingSetModel", "back", "()I"⟩
def zy174 : MethodName := ⟨"HummingSetModel", "count", "(I)I"⟩
def zy175 : MethodName := ⟨"java/lang/Integer", "bitCount", "(I)I"⟩
def zy176 : MethodName := ⟨"HummingSetLaw", "law", "([I)Z"⟩
def zMs : List (MethodName × ByteArray × Nat × Option FieldType × Nat) := [
  (zy0, prog_2_method_1_code, 1, none, 1),
  (zy1, prog_2_method_2_code, 5, none, 1),
  (zy2, prog_2_method_3_code, 3, none, 2),
  (zy3, prog_3_method_1_code, 1, none, 1),
  (zy4, prog_3_method_2_code, 9, none, 3),
  (zy5, prog_3_method_3_code, 7, none, 2),
  (zy6, prog_3_method_4_code, 4, (some .int), 1),
  (zy7, prog_3_method_5_code, 1, (some .int), 2),
  (zy8, prog_3_method_6_code, 3, (some .int), 1),
  (zy9, prog_3_method_7_code, 7, (some .int), 4),
  (zy10, prog_3_method_8_code, 3, (some .int), 2),
  (zy11, prog_4_method_1_code, 1, none, 1),
  (zy12, prog_4_method_2_code, 3, none, 2),
  (zy13, prog_4_method_3_code, 4, none, 1),
  (zy14, prog_4_method_4_code, 8, none, 5),
  (zy15, prog_4_method_5_code, 5, (some .long), 1),
  (zy16, prog_4_method_6_code, 5, (some .int), 1),
  (zy17, prog_5_method_1_code, 1, none, 1),
  (zy18, prog_5_method_2_code, 2, (some .int), 1),
  (zy19, prog_5_method_3_code, 4, (some .int), 2),
  (zy20, prog_5_method_4_code, 3, (some .int), 2),
  (zy21, prog_6_method_1_code, 1, none, 1),
  (zy22, prog_6_method_2_code, 4, none, 4),
  (zy23, prog_6_method_3_code, 7, (some .long), 1),
  (zy24, prog_6_method_4_code, 8, (some .int), 2),
  (zy25, prog_6_method_5_code, 7, none, 2),
  (zy26, prog_6_method_6_code, 9, none, 1),
  (zy27, prog_7_method_1_code, 1, none, 1),
  (zy28, prog_7_method_2_code, 5, (some .int), 6),
  (zy29, prog_7_method_3_code, 6, (some .boolean), 5),
  (zy30, prog_7_method_4_code, 1, (some .int), 1),
  (zy31, prog_7_method_5_code, 6, (some .boolean), 2),
  (zy32, prog_7_method_6_code, 6, (some .boolean), 4),
  (zy33, prog_8_method_1_code, 1, none, 1),
  (zy34, prog_8_method_2_code, 10, none, 6),
  (zy35, prog_8_method_3_code, 5, (some .boolean), 2),
  (zy36, prog_8_method_4_code, 1, (some .int), 1),
  (zy37, prog_8_method_5_code, 11, (some .long), 5),
  (zy38, prog_9_method_1_code, 1, none, 1),
  (zy39, prog_10_method_1_code, 1, none, 1),
  (zy40, prog_10_method_2_code, 2, (some .boolean), 1),
  (zy41, prog_10_method_3_code, 5, none, 1),
  (zy42, prog_10_method_4_code, 2, (some .int), 1),
  (zy43, prog_11_method_1_code, 1, none, 1),
  (zy44, prog_12_method_1_code, 2, none, 2),
  (zy45, prog_12_method_2_code, 2, none, 1),
  (zy46, prog_12_method_3_code, 2, (some .boolean), 1),
  (zy47, prog_12_method_4_code, 2, (some .boolean), 1),
  (zy48, prog_12_method_5_code, 2, (some .boolean), 1),
  (zy49, prog_12_method_6_code, 3, (some .boolean), 2),
  (zy50, prog_12_method_7_code, 2, (some .int), 1),
  (zy51, prog_12_method_8_code, 5, (some .boolean), 2),
  (zy52, prog_12_method_9_code, 8, (some .boolean), 2),
  (zy53, prog_12_method_10_code, 4, (some .boolean), 3),
  (zy54, prog_12_method_11_code, 4, (some .boolean), 3),
  (zy55, prog_12_method_12_code, 3, (some .boolean), 2),
  (zy56, prog_12_method_13_code, 5, (some .boolean), 3),
  (zy57, prog_12_method_14_code, 3, (some .boolean), 3),
  (zy58, prog_12_method_15_code, 3, (some .boolean), 2),
  (zy59, prog_12_method_16_code, 4, (some .boolean), 2),
  (zy60, prog_12_method_17_code, 3, (some .int), 3),
  (zy61, prog_12_method_18_code, 5, (some .boolean), 2),
  (zy62, prog_12_method_19_code, 3, (some .boolean), 1),
  (zy63, prog_12_method_20_code, 3, (some .int), 3),
  (zy64, prog_12_method_21_code, 6, (some .long), 1),
  (zy65, prog_12_method_22_code, 4, (some .int), 1),
  (zy66, prog_12_method_23_code, 3, (some .int), 2),
  (zy67, prog_12_method_24_code, 7, (some .boolean), 1),
  (zy68, prog_12_method_25_code, 7, (some .int), 2),
  (zy69, prog_1_method_1_code, 1, none, 7),
  (zy70, prog_1_method_2_code, 4, (some .int), 2),
  (zy71, prog_1_method_3_code, 2, (some .int), 1),
  (zy72, prog_1_method_4_code, 1, (some .int), 7),
  (zy73, prog_1_method_5_code, 2, (some .int), 7),
  (zy74, prog_1_method_6_code, 4, (some .int), 2),
  (zy75, prog_1_method_7_code, 4, (some .int), 4),
  (zy76, prog_1_method_8_code, 5, (some .int), 4),
  (zy77, prog_1_method_9_code, 4, (some .int), 4),
  (zy78, prog_1_method_10_code, 5, (some .int), 5),
  (zy79, prog_1_method_11_code, 3, (some .int), 4),
  (zy80, prog_1_method_12_code, 3, (some .int), 3),
  (zy81, prog_1_method_13_code, 1, (some .int), 4),
  (zy82, prog_1_method_14_code, 5, (some .int), 6),
  (zy83, prog_1_method_15_code, 2, (some .int), 7),
  (zy84, prog_1_method_16_code, 2, (some .long), 2),
  (zy85, prog_1_method_17_code, 9, (some .long), 2),
  (zy86, prog_1_method_18_code, 1, (some .int), 2),
  (zy87, prog_1_method_19_code, 3, (some .long), 7),
  (zy88, prog_1_method_20_code, 4, (some .int), 3),
  (zy89, prog_1_method_21_code, 2, (some .long), 3),
  (zy90, prog_1_method_22_code, 6, (some .int), 5),
  (zy91, prog_1_method_23_code, 1, (some .int), 3),
  (zy92, prog_1_method_24_code, 3, (some .int), 3),
  (zy93, prog_1_method_25_code, 6, (some .int), 3),
  (zy94, prog_1_method_26_code, 6, (some .int), 2),
  (zy95, prog_1_method_27_code, 1, (some .int), 3),
  (zy96, prog_1_method_28_code, 1, (some .int), 7),
  (zy97, prog_1_method_29_code, 2, (some .int), 1),
  (zy98, prog_1_method_30_code, 2, none, 6),
  (zy99, prog_1_method_31_code, 2, (some .int), 4),
  (zy100, prog_1_method_32_code, 3, (some .boolean), 1),
  (zy101, prog_1_method_33_code, 1, (some .boolean), 2),
  (zy102, prog_1_method_34_code, 1, (some .boolean), 2),
  (zy103, prog_1_method_35_code, 11, (some .long), 1),
  (zy104, prog_14_method_1_code, 1, none, 2),
  (zy105, prog_14_method_2_code, 6, (some .boolean), 1),
  (zy106, prog_14_method_3_code, 2, (some .boolean), 1),
  (zy107, prog_14_method_4_code, 1, (some .int), 1),
  (zy108, prog_14_method_5_code, 3, none, 1),
  (zy109, prog_14_method_6_code, 3, none, 1),
  (zy110, prog_14_method_7_code, 5, (some .int), 2),
  (zy111, prog_14_method_8_code, 2, (some .int), 1),
  (zy112, prog_14_method_9_code, 2, (some .int), 1),
  (zy113, prog_14_method_10_code, 6, (some .boolean), 2),
  (zy114, prog_14_method_11_code, 1, (some .boolean), 2),
  (zy115, prog_14_method_12_code, 1, (some .boolean), 2),
  (zy116, prog_14_method_13_code, 2, (some .boolean), 3),
  (zy117, prog_14_method_14_code, 2, (some .boolean), 3),
  (zy118, prog_14_method_15_code, 1, (some .boolean), 3),
  (zy119, prog_14_method_16_code, 1, (some .boolean), 3),
  (zy120, prog_14_method_17_code, 2, (some .boolean), 3),
  (zy121, prog_14_method_18_code, 2, (some .boolean), 4),
  (zy122, prog_14_method_19_code, 2, (some .int), 5),
  (zy123, prog_14_method_20_code, 1, (some .int), 6),
  (zy124, prog_14_method_21_code, 2, (some .int), 6),
  (zy125, prog_14_method_22_code, 2, (some .boolean), 2),
  (zy126, prog_14_method_23_code, 2, (some .boolean), 2),
  (zy127, prog_14_method_24_code, 2, (some .boolean), 2),
  (zy128, prog_14_method_25_code, 1, (some .boolean), 2),
  (zy129, prog_14_method_26_code, 3, (some .int), 3),
  (zy130, prog_14_method_27_code, 11, (some .int), 2),
  (zy131, prog_14_method_28_code, 7, (some .int), 3),
  (zy132, prog_14_method_29_code, 7, (some .int), 4),
  (zy133, prog_14_method_30_code, 4, (some .int), 4),
  (zy134, prog_14_method_31_code, 4, (some .int), 4),
  (zy135, prog_14_method_32_code, 5, (some .int), 3),
  (zy136, prog_14_method_33_code, 6, (some .int), 5),
  (zy137, prog_14_method_34_code, 3, (some .boolean), 3),
  (zy138, prog_14_method_35_code, 7, (some .int), 5),
  (zy139, prog_14_method_36_code, 5, (some .int), 6),
  (zy140, prog_14_method_37_code, 5, (some .int), 1),
  (zy141, prog_14_method_38_code, 3, (some .int), 4),
  (zy142, prog_14_method_39_code, 5, (some .int), 1),
  (zy143, prog_14_method_40_code, 3, (some .int), 3),
  (zy144, prog_14_method_41_code, 4, (some .int), 2),
  (zy145, prog_14_method_42_code, 3, (some .int), 1),
  (zy146, prog_14_method_43_code, 5, (some .long), 2),
  (zy147, prog_14_method_44_code, 4, (some .boolean), 6),
  (zy148, prog_14_method_45_code, 2, none, 7),
  (zy149, prog_14_method_46_code, 4, (some .long), 1),
  (zy150, prog_14_method_47_code, 6, (some .int), 4),
  (zy151, prog_14_method_48_code, 2, (some .int), 1),
  (zy152, prog_14_method_49_code, 2, (some .long), 8),
  (zy153, prog_14_method_50_code, 10, (some .long), 1),
  (zy154, prog_14_method_51_code, 7, (some .long), 8),
  (zy155, prog_14_method_52_code, 3, (some .int), 8),
  (zy156, prog_14_method_53_code, 7, (some .long), 6),
  (zy157, prog_14_method_54_code, 1, (some .int), 1),
  (zy158, prog_14_method_55_code, 12, (some .long), 8),
  (zy159, prog_14_method_56_code, 2, (some .boolean), 5),
  (zy160, prog_14_method_57_code, 4, (some .int), 2),
  (zy161, prog_14_method_58_code, 8, (some .int), 8),
  (zy162, prog_14_method_59_code, 5, (some .long), 6),
  (zy163, prog_14_method_60_code, 8, none, 7),
  (zy164, prog_14_method_61_code, 2, (some .long), 8),
  (zy165, prog_14_method_62_code, 4, (some .int), 5),
  (zy166, prog_14_method_63_code, 8, (some .int), 1),
  (zy167, prog_14_method_64_code, 6, (some .int), 1),
  (zy168, prog_14_method_65_code, 3, (some .int), 3),
  (zy169, prog_14_method_66_code, 4, (some .int), 2),
  (zy170, prog_14_method_67_code, 6, (some .int), 2),
  (zy171, prog_14_method_68_code, 4, none, 1),
  (zy172, prog_14_method_69_code, 1, (some .int), 2),
  (zy173, prog_14_method_70_code, 1, (some .int), 2),
  (zy174, prog_14_method_71_code, 2, (some .int), 1),
  (zy175, prog_15_method_49_code, 1, (some .int), 1),
  (zy176, code, 4, (some .boolean), 9)]
def zM (k : Nat) : MethodName × ByteArray × Nat × Option FieldType × Nat := match zMs[k]? with
  | some q => q
  | none => (zy0, ⟨#[]⟩, 0, none, 0)
def zy (k : Nat) : MethodName := (zM k).1
def zb (k : Nat) : ByteArray := (zM k).2.1
def zml (k : Nat) : Nat := (zM k).2.2.1
def zrt (k : Nat) : Option FieldType := (zM k).2.2.2.1
def zrk (k : Nat) : Nat := (zM k).2.2.2.2
set_option maxRecDepth 100000 in
theorem zcw0 : Cond.code (zy 0) (zb 0) (zml 0) (zrt 0) ∈ zWS := zmW 75 rfl rfl
set_option maxRecDepth 100000 in
theorem zcw1 : Cond.code (zy 1) (zb 1) (zml 1) (zrt 1) ∈ zWS := zmW 611 rfl rfl
set_option maxRecDepth 100000 in
theorem zcw2 : Cond.code (zy 2) (zb 2) (zml 2) (zrt 2) ∈ zWS := zmW 751 rfl rfl
set_option maxRecDepth 100000 in
theorem zcw3 : Cond.code (zy 3) (zb 3) (zml 3) (zrt 3) ∈ zWS := zmW 58 rfl rfl
set_option maxRecDepth 100000 in
theorem zcw4 : Cond.code (zy 4) (zb 4) (zml 4) (zrt 4) ∈ zWS := zmW 353 rfl rfl
set_option maxRecDepth 100000 in
theorem zcw5 : Cond.code (zy 5) (zb 5) (zml 5) (zrt 5) ∈ zWS := zmW 357 rfl rfl
set_option maxRecDepth 100000 in
theorem zcw6 : Cond.code (zy 6) (zb 6) (zml 6) (zrt 6) ∈ zWS := zmW 362 rfl rfl
set_option maxRecDepth 100000 in
theorem zcw7 : Cond.code (zy 7) (zb 7) (zml 7) (zrt 7) ∈ zWS := zmW 546 rfl rfl
set_option maxRecDepth 100000 in
theorem zcw8 : Cond.code (zy 8) (zb 8) (zml 8) (zrt 8) ∈ zWS := zmW 399 rfl rfl
set_option maxRecDepth 100000 in
theorem zcw9 : Cond.code (zy 9) (zb 9) (zml 9) (zrt 9) ∈ zWS := zmW 391 rfl rfl
set_option maxRecDepth 100000 in
theorem zcw10 : Cond.code (zy 10) (zb 10) (zml 10) (zrt 10) ∈ zWS := zmW 394 rfl rfl
set_option maxRecDepth 100000 in
theorem zcw11 : Cond.code (zy 11) (zb 11) (zml 11) (zrt 11) ∈ zWS := zmW 103 rfl rfl
set_option maxRecDepth 100000 in
theorem zcw12 : Cond.code (zy 12) (zb 12) (zml 12) (zrt 12) ∈ zWS := zmW 373 rfl rfl
set_option maxRecDepth 100000 in
theorem zcw13 : Cond.code (zy 13) (zb 13) (zml 13) (zrt 13) ∈ zWS := zmW 383 rfl rfl
set_option maxRecDepth 100000 in
theorem zcw14 : Cond.code (zy 14) (zb 14) (zml 14) (zrt 14) ∈ zWS := zmW 387 rfl rfl
set_option maxRecDepth 100000 in
theorem zcw15 : Cond.code (zy 15) (zb 15) (zml 15) (zrt 15) ∈ zWS := zmW 629 rfl rfl
set_option maxRecDepth 100000 in
theorem zcw16 : Cond.code (zy 16) (zb 16) (zml 16) (zrt 16) ∈ zWS := zmW 640 rfl rfl
set_option maxRecDepth 100000 in
theorem zcw17 : Cond.code (zy 17) (zb 17) (zml 17) (zrt 17) ∈ zWS := zmW 205 rfl rfl
set_option maxRecDepth 100000 in
theorem zcw18 : Cond.code (zy 18) (zb 18) (zml 18) (zrt 18) ∈ zWS := zmW 587 rfl rfl
set_option maxRecDepth 100000 in
theorem zcw19 : Cond.code (zy 19) (zb 19) (zml 19) (zrt 19) ∈ zWS := zmW 583 rfl rfl
set_option maxRecDepth 100000 in
theorem zcw20 : Cond.code (zy 20) (zb 20) (zml 20) (zrt 20) ∈ zWS := zmW 602 rfl rfl
set_option maxRecDepth 100000 in
theorem zcw21 : Cond.code (zy 21) (zb 21) (zml 21) (zrt 21) ∈ zWS := zmW 157 rfl rfl
set_option maxRecDepth 100000 in
theorem zcw22 : Cond.code (zy 22) (zb 22) (zml 22) (zrt 22) ∈ zWS := zmW 339 rfl rfl
set_option maxRecDepth 100000 in
theorem zcw23 : Cond.code (zy 23) (zb 23) (zml 23) (zrt 23) ∈ zWS := zmW 685 rfl rfl
set_option maxRecDepth 100000 in
theorem zcw24 : Cond.code (zy 24) (zb 24) (zml 24) (zrt 24) ∈ zWS := zmW 676 rfl rfl
set_option maxRecDepth 100000 in
theorem zcw25 : Cond.code (zy 25) (zb 25) (zml 25) (zrt 25) ∈ zWS := zmW 694 rfl rfl
set_option maxRecDepth 100000 in
theorem zcw26 : Cond.code (zy 26) (zb 26) (zml 26) (zrt 26) ∈ zWS := zmW 699 rfl rfl
set_option maxRecDepth 100000 in
theorem zcw27 : Cond.code (zy 27) (zb 27) (zml 27) (zrt 27) ∈ zWS := zmW 44 rfl rfl
set_option maxRecDepth 100000 in
theorem zcw28 : Cond.code (zy 28) (zb 28) (zml 28) (zrt 28) ∈ zWS := zmW 464 rfl rfl
set_option maxRecDepth 100000 in
theorem zcw29 : Cond.code (zy 29) (zb 29) (zml 29) (zrt 29) ∈ zWS := zmW 469 rfl rfl
set_option maxRecDepth 100000 in
theorem zcw30 : Cond.code (zy 30) (zb 30) (zml 30) (zrt 30) ∈ zWS := zmW 476 rfl rfl
set_option maxRecDepth 100000 in
theorem zcw31 : Cond.code (zy 31) (zb 31) (zml 31) (zrt 31) ∈ zWS := zmW 480 rfl rfl
set_option maxRecDepth 100000 in
theorem zcw32 : Cond.code (zy 32) (zb 32) (zml 32) (zrt 32) ∈ zWS := zmW 485 rfl rfl
set_option maxRecDepth 100000 in
theorem zcw33 : Cond.code (zy 33) (zb 33) (zml 33) (zrt 33) ∈ zWS := zmW 132 rfl rfl
set_option maxRecDepth 100000 in
theorem zcw34 : Cond.code (zy 34) (zb 34) (zml 34) (zrt 34) ∈ zWS := zmW 648 rfl rfl
set_option maxRecDepth 100000 in
theorem zcw35 : Cond.code (zy 35) (zb 35) (zml 35) (zrt 35) ∈ zWS := zmW 663 rfl rfl
set_option maxRecDepth 100000 in
theorem zcw36 : Cond.code (zy 36) (zb 36) (zml 36) (zrt 36) ∈ zWS := zmW 666 rfl rfl
set_option maxRecDepth 100000 in
theorem zcw37 : Cond.code (zy 37) (zb 37) (zml 37) (zrt 37) ∈ zWS := zmW 653 rfl rfl
set_option maxRecDepth 100000 in
theorem zcw38 : Cond.code (zy 38) (zb 38) (zml 38) (zrt 38) ∈ zWS := zmW 187 rfl rfl
set_option maxRecDepth 100000 in
theorem zcw39 : Cond.code (zy 39) (zb 39) (zml 39) (zrt 39) ∈ zWS := zmW 28 rfl rfl
set_option maxRecDepth 100000 in
theorem zcw40 : Cond.code (zy 40) (zb 40) (zml 40) (zrt 40) ∈ zWS := zmW 448 rfl rfl
set_option maxRecDepth 100000 in
theorem zcw41 : Cond.code (zy 41) (zb 41) (zml 41) (zrt 41) ∈ zWS := zmW 452 rfl rfl
set_option maxRecDepth 100000 in
theorem zcw42 : Cond.code (zy 42) (zb 42) (zml 42) (zrt 42) ∈ zWS := zmW 473 rfl rfl
set_option maxRecDepth 100000 in
theorem zcw43 : Cond.code (zy 43) (zb 43) (zml 43) (zrt 43) ∈ zWS := zmW 252 rfl rfl
set_option maxRecDepth 100000 in
theorem zcw44 : Cond.code (zy 44) (zb 44) (zml 44) (zrt 44) ∈ zWS := zmW 176 rfl rfl
set_option maxRecDepth 100000 in
theorem zcw45 : Cond.code (zy 45) (zb 45) (zml 45) (zrt 45) ∈ zWS := zmW 267 rfl rfl
set_option maxRecDepth 100000 in
theorem zcw46 : Cond.code (zy 46) (zb 46) (zml 46) (zrt 46) ∈ zWS := zmW 323 rfl rfl
set_option maxRecDepth 100000 in
theorem zcw47 : Cond.code (zy 47) (zb 47) (zml 47) (zrt 47) ∈ zWS := zmW 331 rfl rfl
set_option maxRecDepth 100000 in
theorem zcw48 : Cond.code (zy 48) (zb 48) (zml 48) (zrt 48) ∈ zWS := zmW 343 rfl rfl
set_option maxRecDepth 100000 in
theorem zcw49 : Cond.code (zy 49) (zb 49) (zml 49) (zrt 49) ∈ zWS := zmW 554 rfl rfl
set_option maxRecDepth 100000 in
theorem zcw50 : Cond.code (zy 50) (zb 50) (zml 50) (zrt 50) ∈ zWS := zmW 558 rfl rfl
set_option maxRecDepth 100000 in
theorem zcw51 : Cond.code (zy 51) (zb 51) (zml 51) (zrt 51) ∈ zWS := zmW 312 rfl rfl
set_option maxRecDepth 100000 in
theorem zcw52 : Cond.code (zy 52) (zb 52) (zml 52) (zrt 52) ∈ zWS := zmW 319 rfl rfl
set_option maxRecDepth 100000 in
theorem zcw53 : Cond.code (zy 53) (zb 53) (zml 53) (zrt 53) ∈ zWS := zmW 327 rfl rfl
set_option maxRecDepth 100000 in
theorem zcw54 : Cond.code (zy 54) (zb 54) (zml 54) (zrt 54) ∈ zWS := zmW 492 rfl rfl
set_option maxRecDepth 100000 in
theorem zcw55 : Cond.code (zy 55) (zb 55) (zml 55) (zrt 55) ∈ zWS := zmW 496 rfl rfl
set_option maxRecDepth 100000 in
theorem zcw56 : Cond.code (zy 56) (zb 56) (zml 56) (zrt 56) ∈ zWS := zmW 500 rfl rfl
set_option maxRecDepth 100000 in
theorem zcw57 : Cond.code (zy 57) (zb 57) (zml 57) (zrt 57) ∈ zWS := zmW 504 rfl rfl
set_option maxRecDepth 100000 in
theorem zcw58 : Cond.code (zy 58) (zb 58) (zml 58) (zrt 58) ∈ zWS := zmW 508 rfl rfl
set_option maxRecDepth 100000 in
theorem zcw59 : Cond.code (zy 59) (zb 59) (zml 59) (zrt 59) ∈ zWS := zmW 512 rfl rfl
set_option maxRecDepth 100000 in
theorem zcw60 : Cond.code (zy 60) (zb 60) (zml 60) (zrt 60) ∈ zWS := zmW 567 rfl rfl
set_option maxRecDepth 100000 in
theorem zcw61 : Cond.code (zy 61) (zb 61) (zml 61) (zrt 61) ∈ zWS := zmW 571 rfl rfl
set_option maxRecDepth 100000 in
theorem zcw62 : Cond.code (zy 62) (zb 62) (zml 62) (zrt 62) ∈ zWS := zmW 575 rfl rfl
set_option maxRecDepth 100000 in
theorem zcw63 : Cond.code (zy 63) (zb 63) (zml 63) (zrt 63) ∈ zWS := zmW 598 rfl rfl
set_option maxRecDepth 100000 in
theorem zcw64 : Cond.code (zy 64) (zb 64) (zml 64) (zrt 64) ∈ zWS := zmW 379 rfl rfl
set_option maxRecDepth 100000 in
theorem zcw65 : Cond.code (zy 65) (zb 65) (zml 65) (zrt 65) ∈ zWS := zmW 680 rfl rfl
set_option maxRecDepth 100000 in
theorem zcw66 : Cond.code (zy 66) (zb 66) (zml 66) (zrt 66) ∈ zWS := zmW 715 rfl rfl
set_option maxRecDepth 100000 in
theorem zcw67 : Cond.code (zy 67) (zb 67) (zml 67) (zrt 67) ∈ zWS := zmW 719 rfl rfl
set_option maxRecDepth 100000 in
theorem zcw68 : Cond.code (zy 68) (zb 68) (zml 68) (zrt 68) ∈ zWS := zmW 729 rfl rfl
set_option maxRecDepth 100000 in
theorem zcw69 : Cond.code (zy 69) (zb 69) (zml 69) (zrt 69) ∈ zWS := zmW 20 rfl rfl
set_option maxRecDepth 100000 in
theorem zcw70 : Cond.code (zy 70) (zb 70) (zml 70) (zrt 70) ∈ zWS := zmW 444 rfl rfl
set_option maxRecDepth 100000 in
theorem zcw71 : Cond.code (zy 71) (zb 71) (zml 71) (zrt 71) ∈ zWS := zmW 456 rfl rfl
set_option maxRecDepth 100000 in
theorem zcw72 : Cond.code (zy 72) (zb 72) (zml 72) (zrt 72) ∈ zWS := zmW 460 rfl rfl
set_option maxRecDepth 100000 in
theorem zcw73 : Cond.code (zy 73) (zb 73) (zml 73) (zrt 73) ∈ zWS := zmW 516 rfl rfl
set_option maxRecDepth 100000 in
theorem zcw74 : Cond.code (zy 74) (zb 74) (zml 74) (zrt 74) ∈ zWS := zmW 520 rfl rfl
set_option maxRecDepth 100000 in
theorem zcw75 : Cond.code (zy 75) (zb 75) (zml 75) (zrt 75) ∈ zWS := zmW 525 rfl rfl
set_option maxRecDepth 100000 in
theorem zcw76 : Cond.code (zy 76) (zb 76) (zml 76) (zrt 76) ∈ zWS := zmW 536 rfl rfl
set_option maxRecDepth 100000 in
theorem zcw77 : Cond.code (zy 77) (zb 77) (zml 77) (zrt 77) ∈ zWS := zmW 541 rfl rfl
set_option maxRecDepth 100000 in
theorem zcw78 : Cond.code (zy 78) (zb 78) (zml 78) (zrt 78) ∈ zWS := zmW 550 rfl rfl
set_option maxRecDepth 100000 in
theorem zcw79 : Cond.code (zy 79) (zb 79) (zml 79) (zrt 79) ∈ zWS := zmW 563 rfl rfl
set_option maxRecDepth 100000 in
theorem zcw80 : Cond.code (zy 80) (zb 80) (zml 80) (zrt 80) ∈ zWS := zmW 579 rfl rfl
set_option maxRecDepth 100000 in
theorem zcw81 : Cond.code (zy 81) (zb 81) (zml 81) (zrt 81) ∈ zWS := zmW 594 rfl rfl
set_option maxRecDepth 100000 in
theorem zcw82 : Cond.code (zy 82) (zb 82) (zml 82) (zrt 82) ∈ zWS := zmW 607 rfl rfl
set_option maxRecDepth 100000 in
theorem zcw83 : Cond.code (zy 83) (zb 83) (zml 83) (zrt 83) ∈ zWS := zmW 615 rfl rfl
set_option maxRecDepth 100000 in
theorem zcw84 : Cond.code (zy 84) (zb 84) (zml 84) (zrt 84) ∈ zWS := zmW 619 rfl rfl
set_option maxRecDepth 100000 in
theorem zcw85 : Cond.code (zy 85) (zb 85) (zml 85) (zrt 85) ∈ zWS := zmW 624 rfl rfl
set_option maxRecDepth 100000 in
theorem zcw86 : Cond.code (zy 86) (zb 86) (zml 86) (zrt 86) ∈ zWS := zmW 636 rfl rfl
set_option maxRecDepth 100000 in
theorem zcw87 : Cond.code (zy 87) (zb 87) (zml 87) (zrt 87) ∈ zWS := zmW 644 rfl rfl
set_option maxRecDepth 100000 in
theorem zcw88 : Cond.code (zy 88) (zb 88) (zml 88) (zrt 88) ∈ zWS := zmW 672 rfl rfl
set_option maxRecDepth 100000 in
theorem zcw89 : Cond.code (zy 89) (zb 89) (zml 89) (zrt 89) ∈ zWS := zmW 690 rfl rfl
set_option maxRecDepth 100000 in
theorem zcw90 : Cond.code (zy 90) (zb 90) (zml 90) (zrt 90) ∈ zWS := zmW 703 rfl rfl
set_option maxRecDepth 100000 in
theorem zcw91 : Cond.code (zy 91) (zb 91) (zml 91) (zrt 91) ∈ zWS := zmW 711 rfl rfl
set_option maxRecDepth 100000 in
theorem zcw92 : Cond.code (zy 92) (zb 92) (zml 92) (zrt 92) ∈ zWS := zmW 725 rfl rfl
set_option maxRecDepth 100000 in
theorem zcw93 : Cond.code (zy 93) (zb 93) (zml 93) (zrt 93) ∈ zWS := zmW 735 rfl rfl
set_option maxRecDepth 100000 in
theorem zcw94 : Cond.code (zy 94) (zb 94) (zml 94) (zrt 94) ∈ zWS := zmW 739 rfl rfl
set_option maxRecDepth 100000 in
theorem zcw95 : Cond.code (zy 95) (zb 95) (zml 95) (zrt 95) ∈ zWS := zmW 747 rfl rfl
set_option maxRecDepth 100000 in
theorem zcw96 : Cond.code (zy 96) (zb 96) (zml 96) (zrt 96) ∈ zWS := zmW 756 rfl rfl
set_option maxRecDepth 100000 in
theorem zcw97 : Cond.code (zy 97) (zb 97) (zml 97) (zrt 97) ∈ zWS := zmW 760 rfl rfl
set_option maxRecDepth 100000 in
theorem zcw98 : Cond.code (zy 98) (zb 98) (zml 98) (zrt 98) ∈ zWS := zmW 369 rfl rfl
set_option maxRecDepth 100000 in
theorem zcw99 : Cond.code (zy 99) (zb 99) (zml 99) (zrt 99) ∈ zWS := zmW 707 rfl rfl
set_option maxRecDepth 100000 in
theorem zcw100 : Cond.code (zy 100) (zb 100) (zml 100) (zrt 100) ∈ zWS := zmW 315 rfl rfl
set_option maxRecDepth 100000 in
theorem zcw101 : Cond.code (zy 101) (zb 101) (zml 101) (zrt 101) ∈ zWS := zmW 334 rfl rfl
set_option maxRecDepth 100000 in
theorem zcw102 : Cond.code (zy 102) (zb 102) (zml 102) (zrt 102) ∈ zWS := zmW 530 rfl rfl
set_option maxRecDepth 100000 in
theorem zcw103 : Cond.code (zy 103) (zb 103) (zml 103) (zrt 103) ∈ zWS := zmW 632 rfl rfl
set_option maxRecDepth 100000 in
theorem zcw104 : Cond.code (zy 104) (zb 104) (zml 104) (zrt 104) ∈ zWS := zmW 765 rfl rfl
set_option maxRecDepth 100000 in
theorem zcw105 : Cond.code (zy 105) (zb 105) (zml 105) (zrt 105) ∈ zWS := zmW 897 rfl rfl
set_option maxRecDepth 100000 in
theorem zcw106 : Cond.code (zy 106) (zb 106) (zml 106) (zrt 106) ∈ zWS := zmW 999 rfl rfl
set_option maxRecDepth 100000 in
theorem zcw107 : Cond.code (zy 107) (zb 107) (zml 107) (zrt 107) ∈ zWS := zmW 1019 rfl rfl
set_option maxRecDepth 100000 in
theorem zcw108 : Cond.code (zy 108) (zb 108) (zml 108) (zrt 108) ∈ zWS := zmW 774 rfl rfl
set_option maxRecDepth 100000 in
theorem zcw109 : Cond.code (zy 109) (zb 109) (zml 109) (zrt 109) ∈ zWS := zmW 770 rfl rfl
set_option maxRecDepth 100000 in
theorem zcw110 : Cond.code (zy 110) (zb 110) (zml 110) (zrt 110) ∈ zWS := zmW 893 rfl rfl
set_option maxRecDepth 100000 in
theorem zcw111 : Cond.code (zy 111) (zb 111) (zml 111) (zrt 111) ∈ zWS := zmW 902 rfl rfl
set_option maxRecDepth 100000 in
theorem zcw112 : Cond.code (zy 112) (zb 112) (zml 112) (zrt 112) ∈ zWS := zmW 918 rfl rfl
set_option maxRecDepth 100000 in
theorem zcw113 : Cond.code (zy 113) (zb 113) (zml 113) (zrt 113) ∈ zWS := zmW 926 rfl rfl
set_option maxRecDepth 100000 in
theorem zcw114 : Cond.code (zy 114) (zb 114) (zml 114) (zrt 114) ∈ zWS := zmW 950 rfl rfl
set_option maxRecDepth 100000 in
theorem zcw115 : Cond.code (zy 115) (zb 115) (zml 115) (zrt 115) ∈ zWS := zmW 939 rfl rfl
set_option maxRecDepth 100000 in
theorem zcw116 : Cond.code (zy 116) (zb 116) (zml 116) (zrt 116) ∈ zWS := zmW 922 rfl rfl
set_option maxRecDepth 100000 in
theorem zcw117 : Cond.code (zy 117) (zb 117) (zml 117) (zrt 117) ∈ zWS := zmW 935 rfl rfl
set_option maxRecDepth 100000 in
theorem zcw118 : Cond.code (zy 118) (zb 118) (zml 118) (zrt 118) ∈ zWS := zmW 946 rfl rfl
set_option maxRecDepth 100000 in
theorem zcw119 : Cond.code (zy 119) (zb 119) (zml 119) (zrt 119) ∈ zWS := zmW 956 rfl rfl
set_option maxRecDepth 100000 in
theorem zcw120 : Cond.code (zy 120) (zb 120) (zml 120) (zrt 120) ∈ zWS := zmW 960 rfl rfl
set_option maxRecDepth 100000 in
theorem zcw121 : Cond.code (zy 121) (zb 121) (zml 121) (zrt 121) ∈ zWS := zmW 914 rfl rfl
set_option maxRecDepth 100000 in
theorem zcw122 : Cond.code (zy 122) (zb 122) (zml 122) (zrt 122) ∈ zWS := zmW 910 rfl rfl
set_option maxRecDepth 100000 in
theorem zcw123 : Cond.code (zy 123) (zb 123) (zml 123) (zrt 123) ∈ zWS := zmW 906 rfl rfl
set_option maxRecDepth 100000 in
theorem zcw124 : Cond.code (zy 124) (zb 124) (zml 124) (zrt 124) ∈ zWS := zmW 968 rfl rfl
set_option maxRecDepth 100000 in
theorem zcw125 : Cond.code (zy 125) (zb 125) (zml 125) (zrt 125) ∈ zWS := zmW 1008 rfl rfl
set_option maxRecDepth 100000 in
theorem zcw126 : Cond.code (zy 126) (zb 126) (zml 126) (zrt 126) ∈ zWS := zmW 976 rfl rfl
set_option maxRecDepth 100000 in
theorem zcw127 : Cond.code (zy 127) (zb 127) (zml 127) (zrt 127) ∈ zWS := zmW 985 rfl rfl
set_option maxRecDepth 100000 in
theorem zcw128 : Cond.code (zy 128) (zb 128) (zml 128) (zrt 128) ∈ zWS := zmW 988 rfl rfl
set_option maxRecDepth 100000 in
theorem zcw129 : Cond.code (zy 129) (zb 129) (zml 129) (zrt 129) ∈ zWS := zmW 972 rfl rfl
set_option maxRecDepth 100000 in
theorem zcw130 : Cond.code (zy 130) (zb 130) (zml 130) (zrt 130) ∈ zWS := zmW 996 rfl rfl
set_option maxRecDepth 100000 in
theorem zcw131 : Cond.code (zy 131) (zb 131) (zml 131) (zrt 131) ∈ zWS := zmW 992 rfl rfl
set_option maxRecDepth 100000 in
theorem zcw132 : Cond.code (zy 132) (zb 132) (zml 132) (zrt 132) ∈ zWS := zmW 1016 rfl rfl
set_option maxRecDepth 100000 in
theorem zcw133 : Cond.code (zy 133) (zb 133) (zml 133) (zrt 133) ∈ zWS := zmW 1139 rfl rfl
set_option maxRecDepth 100000 in
theorem zcw134 : Cond.code (zy 134) (zb 134) (zml 134) (zrt 134) ∈ zWS := zmW 981 rfl rfl
set_option maxRecDepth 100000 in
theorem zcw135 : Cond.code (zy 135) (zb 135) (zml 135) (zrt 135) ∈ zWS := zmW 1004 rfl rfl
set_option maxRecDepth 100000 in
theorem zcw136 : Cond.code (zy 136) (zb 136) (zml 136) (zrt 136) ∈ zWS := zmW 1012 rfl rfl
set_option maxRecDepth 100000 in
theorem zcw137 : Cond.code (zy 137) (zb 137) (zml 137) (zrt 137) ∈ zWS := zmW 1027 rfl rfl
set_option maxRecDepth 100000 in
theorem zcw138 : Cond.code (zy 138) (zb 138) (zml 138) (zrt 138) ∈ zWS := zmW 1031 rfl rfl
set_option maxRecDepth 100000 in
theorem zcw139 : Cond.code (zy 139) (zb 139) (zml 139) (zrt 139) ∈ zWS := zmW 1023 rfl rfl
set_option maxRecDepth 100000 in
theorem zcw140 : Cond.code (zy 140) (zb 140) (zml 140) (zrt 140) ∈ zWS := zmW 1039 rfl rfl
set_option maxRecDepth 100000 in
theorem zcw141 : Cond.code (zy 141) (zb 141) (zml 141) (zrt 141) ∈ zWS := zmW 1035 rfl rfl
set_option maxRecDepth 100000 in
theorem zcw142 : Cond.code (zy 142) (zb 142) (zml 142) (zrt 142) ∈ zWS := zmW 1047 rfl rfl
set_option maxRecDepth 100000 in
theorem zcw143 : Cond.code (zy 143) (zb 143) (zml 143) (zrt 143) ∈ zWS := zmW 1043 rfl rfl
set_option maxRecDepth 100000 in
theorem zcw144 : Cond.code (zy 144) (zb 144) (zml 144) (zrt 144) ∈ zWS := zmW 1051 rfl rfl
set_option maxRecDepth 100000 in
theorem zcw145 : Cond.code (zy 145) (zb 145) (zml 145) (zrt 145) ∈ zWS := zmW 1071 rfl rfl
set_option maxRecDepth 100000 in
theorem zcw146 : Cond.code (zy 146) (zb 146) (zml 146) (zrt 146) ∈ zWS := zmW 1075 rfl rfl
set_option maxRecDepth 100000 in
theorem zcw147 : Cond.code (zy 147) (zb 147) (zml 147) (zrt 147) ∈ zWS := zmW 1079 rfl rfl
set_option maxRecDepth 100000 in
theorem zcw148 : Cond.code (zy 148) (zb 148) (zml 148) (zrt 148) ∈ zWS := zmW 1068 rfl rfl
set_option maxRecDepth 100000 in
theorem zcw149 : Cond.code (zy 149) (zb 149) (zml 149) (zrt 149) ∈ zWS := zmW 1083 rfl rfl
set_option maxRecDepth 100000 in
theorem zcw150 : Cond.code (zy 150) (zb 150) (zml 150) (zrt 150) ∈ zWS := zmW 1055 rfl rfl
set_option maxRecDepth 100000 in
theorem zcw151 : Cond.code (zy 151) (zb 151) (zml 151) (zrt 151) ∈ zWS := zmW 1059 rfl rfl
set_option maxRecDepth 100000 in
theorem zcw152 : Cond.code (zy 152) (zb 152) (zml 152) (zrt 152) ∈ zWS := zmW 1063 rfl rfl
set_option maxRecDepth 100000 in
theorem zcw153 : Cond.code (zy 153) (zb 153) (zml 153) (zrt 153) ∈ zWS := zmW 1091 rfl rfl
set_option maxRecDepth 100000 in
theorem zcw154 : Cond.code (zy 154) (zb 154) (zml 154) (zrt 154) ∈ zWS := zmW 1087 rfl rfl
set_option maxRecDepth 100000 in
theorem zcw155 : Cond.code (zy 155) (zb 155) (zml 155) (zrt 155) ∈ zWS := zmW 1095 rfl rfl
set_option maxRecDepth 100000 in
theorem zcw156 : Cond.code (zy 156) (zb 156) (zml 156) (zrt 156) ∈ zWS := zmW 1103 rfl rfl
set_option maxRecDepth 100000 in
theorem zcw157 : Cond.code (zy 157) (zb 157) (zml 157) (zrt 157) ∈ zWS := zmW 1106 rfl rfl
set_option maxRecDepth 100000 in
theorem zcw158 : Cond.code (zy 158) (zb 158) (zml 158) (zrt 158) ∈ zWS := zmW 1099 rfl rfl
set_option maxRecDepth 100000 in
theorem zcw159 : Cond.code (zy 159) (zb 159) (zml 159) (zrt 159) ∈ zWS := zmW 1115 rfl rfl
set_option maxRecDepth 100000 in
theorem zcw160 : Cond.code (zy 160) (zb 160) (zml 160) (zrt 160) ∈ zWS := zmW 1119 rfl rfl
set_option maxRecDepth 100000 in
theorem zcw161 : Cond.code (zy 161) (zb 161) (zml 161) (zrt 161) ∈ zWS := zmW 1110 rfl rfl
set_option maxRecDepth 100000 in
theorem zcw162 : Cond.code (zy 162) (zb 162) (zml 162) (zrt 162) ∈ zWS := zmW 1131 rfl rfl
set_option maxRecDepth 100000 in
theorem zcw163 : Cond.code (zy 163) (zb 163) (zml 163) (zrt 163) ∈ zWS := zmW 1127 rfl rfl
set_option maxRecDepth 100000 in
theorem zcw164 : Cond.code (zy 164) (zb 164) (zml 164) (zrt 164) ∈ zWS := zmW 1123 rfl rfl
set_option maxRecDepth 100000 in
theorem zcw165 : Cond.code (zy 165) (zb 165) (zml 165) (zrt 165) ∈ zWS := zmW 1135 rfl rfl
set_option maxRecDepth 100000 in
theorem zcw166 : Cond.code (zy 166) (zb 166) (zml 166) (zrt 166) ∈ zWS := zmW 1143 rfl rfl
set_option maxRecDepth 100000 in
theorem zcw167 : Cond.code (zy 167) (zb 167) (zml 167) (zrt 167) ∈ zWS := zmW 1152 rfl rfl
set_option maxRecDepth 100000 in
theorem zcw168 : Cond.code (zy 168) (zb 168) (zml 168) (zrt 168) ∈ zWS := zmW 1148 rfl rfl
set_option maxRecDepth 100000 in
theorem zcw169 : Cond.code (zy 169) (zb 169) (zml 169) (zrt 169) ∈ zWS := zmW 1158 rfl rfl
set_option maxRecDepth 100000 in
theorem zcw170 : Cond.code (zy 170) (zb 170) (zml 170) (zrt 170) ∈ zWS := zmW 1162 rfl rfl
set_option maxRecDepth 100000 in
theorem zcw171 : Cond.code (zy 171) (zb 171) (zml 171) (zrt 171) ∈ zWS := zmW 1174 rfl rfl
set_option maxRecDepth 100000 in
theorem zcw172 : Cond.code (zy 172) (zb 172) (zml 172) (zrt 172) ∈ zWS := zmW 1170 rfl rfl
set_option maxRecDepth 100000 in
theorem zcw173 : Cond.code (zy 173) (zb 173) (zml 173) (zrt 173) ∈ zWS := zmW 1178 rfl rfl
set_option maxRecDepth 100000 in
theorem zcw174 : Cond.code (zy 174) (zb 174) (zml 174) (zrt 174) ∈ zWS := zmW 1182 rfl rfl
set_option maxRecDepth 100000 in
theorem zcw175 : Cond.code (zy 175) (zb 175) (zml 175) (zrt 175) ∈ zWS := zmW 346 rfl rfl
end
section
/-! ===== soundness: a method's contract out of its spec; calls ===== -/
def zKn (K : ZKh) (n : Nat) : Prop := ∀ a, (K a).1 < 30 → (2 ≤ a ∧ a < n + 2) ∧ (K a).2 < 2 ^ 31
def zCx (dC : Nat → ClassId) (dI : Nat → Nat → Nat) (cA : Nat → ClassId) (ad : Nat → Nat) (K : ZKh) (n : Nat) (E : ZMi) (A : Nat → Prop) (k : Nat) (p : Program) (Rm : Room) (s : State) (m : MethodId) (args : Array Value) (c : Code) (cells slots : Nat) : Prop :=
  p.tables.exec = Jvm.exec ∧ c.code = zb k ∧ c.maxLocals = zml k ∧ s.vm.findClass (zy k).cls = some m.cls ∧ (∀ w ∈ zWS, w.before args s = true) ∧ zWd dC dI cA ad K n E A s ∧ zrk k ≤ Rm.frames ∧ 40 * zrk k ≤ Rm.locals ∧ cells ≤ Rm.cells ∧ slots ≤ Rm.slots
/-- the machine's own predicate: at every frame of method k in this world -/
def zSW (l : Launch) (dC : Nat → ClassId) (dI : Nat → Nat → Nat) (cA : Nat → ClassId) (ad : Nat → Nat) (K : ZKh) (n : Nat) (E : ZMi) (A : Nat → Prop) (k pc : Nat) (ls st : List Value) (I : ZMi) (L : ZMl) (R : ZMr) (Q : ZRt) : Prop :=
  ∀ (p : Program) (e : Env) (Rm : Room) (s : State) (m : MethodId) (args : Array Value) (below : List Frame) (meth : Method) (c : Code) (cells slots : Nat) (Z : State → Prop), zCx dC dI cA ad K n E A k p Rm s m args c cells slots →
    (∀ (pc : Nat) (v : Option Value) (ls : List Value) (I : ZMi) (L : ZMl) (R : ZMr), Q v I L R → zisR (zb k) (zrt k) pc v → zAt p l e Rm s m args below meth c cells slots Z dC dI cA ad K n (zml k) E A pc ls v.toList I L R) →
    zAt p l e Rm s m args below meth c cells slots Z dC dI cA ad K n (zml k) E A pc ls st I L R
def zrm (k : Nat) : Room := { frames := zrk k, cells := 0, slots := 0, locals := 40 * zrk k }
theorem zWd_blind {dC : Nat → ClassId} {dI : Nat → Nat → Nat} {cA : Nat → ClassId} {ad : Nat → Nat} {K : ZKh} {n : Nat} {E : ZMi} {A : Nat → Prop} {U V : State} (hv : U.vm = V.vm) (hh : U.heap = V.heap) (h : zWd dC dI cA ad K n E A U) : zWd dC dI cA ad K n E A V := by
  obtain ⟨h1, h2, h3, h4⟩ := h
  have ha : U.vm.Alike V.vm := by rw [hv]; exact Vm.Alike.refl V.vm
  exact ⟨va_K.moved ha h1, zNW_same hv h2, fun a q => ⟨by rw [← hh]; exact va_T.moved ha (h3 a q).1, (h3 a q).2⟩, by rw [← hh]; exact va_Z.moved ha h4⟩
theorem zWd_to {dC : Nat → ClassId} {dI : Nat → Nat → Nat} {cA : Nat → ClassId} {ad : Nat → Nat} {K : ZKh} {n : Nat} {E : ZMi} {A : Nat → Prop} {s U : State} {H : Heap} {locs : List Loc} (hS : va_S A s.heap H locs) (hH : U.heap = H) (hW : s.WarmedH U.vm) (h : zWd dC dI cA ad K n E A s) : zWd dC dI cA ad K n E A U := by
  obtain ⟨h1, h2, h3, h4⟩ := h
  refine ⟨va_K.moved hW.alike h1, zNW_warm hW h2, fun a q => ⟨?_, (h3 a q).2⟩, ?_⟩
  · rw [hH]
    exact va_T.kept (va_T.moved hW.alike (h3 a q).1) (fun b hb hA => hS.2.1 b hb hA)
  · rw [hH]
    exact va_Z.kept (va_Z.moved hW.alike h4) (fun b hb hA => hS.2.1 b hb hA)
theorem zmet {l : Launch} {dC : Nat → ClassId} {dI : Nat → Nat → Nat} {cA : Nat → ClassId} {ad : Nat → Nat} {K : ZKh} {n : Nat} {E : ZMi} {A : Nat → Prop} {k : Nat} {as : List Value} {I : ZMi} {L : ZMl} {R : ZMr} {Q : ZRt} (hy : plainName (zy k).cls = true) (hf : (zsl as).length ≤ zml k)
    (hE : zext K E I) (hD : va_D A (zwl cA ad K n I L R)) (hw : zSW l dC dI cA ad K n E A k 0 (zent (zml k) as) [] I L R Q) :
    Met l (zy k) (Cond.code (zy k) (zb k) (zml k) (zrt k) :: zWS) (zrm k) (va_Pc (as.map (zcv ad)) (fun U => va_P (dC, dI) zcls (zwl cA ad K n I L R) U.heap ∧ zWd dC dI cA ad K n E A U)) (zQ dC dI cA ad K n E A Q) 0 0 A := by
  refine Met.ofW (cc := zb k) (maxL := zml k) (ret := zrt k) hy rfl ?_
  intro p e s m args below meth c s₁ B hml hv
  obtain ⟨rfl, hP, hW⟩ := hv
  have hts := atoms_spec (ws := Cond.code (zy k) (zb k) (zml k) (zrt k) :: zWS) B.pre
  rw [lg_entry_eq]
  exact hw p e (zrm k) s m _ below meth c 0 0 _ ⟨B.exec, B.bytes, hml, findClass_of_methodNamed B.named, fun w h => hts w (List.mem_cons_of_mem _ h), hW, Nat.le_refl _, Nat.le_refl _, Nat.zero_le _, Nat.zero_le _⟩
    (fun pc v ls I L R hq hi => zret B.exec B.bytes B.notSynchronized B.returns pc v ls I L R hq hi) (zent_len hf) hE s.heap [] _ (zentry ad hf) hP hD va_S.rf
section ZS
variable {p : Program} {l : Launch} {e : Env} {Rm : Room} {s : State} {m : MethodId} {args : Array Value} {below : List Frame} {meth : Method} {c : Code} {cells slots : Nat} {Z : State → Prop}
variable {cc : ByteArray} {pc : Nat} {dC : Nat → ClassId} {dI : Nat → Nat → Nat} {cA : Nat → ClassId} {ad : Nat → Nat} {K : ZKh} {n nL : Nat} {E : ZMi} {A : Nat → Prop} {own : String}
variable {nx : ZNx} {rt : ZRt} {cx : ZCx} {ls st : List Value} {I : ZMi} {L : ZMl} {R : ZMr}
/-- a callee's words -/
def zcal (k na : Nat) : Prop := plainName (zy k).cls = true ∧ Cond.code (zy k) (zb k) (zml k) (zrt k) ∈ zWS ∧ ((zy k).cls ≠ "java/lang/invoke/MethodHandle" ∧ (zy k).cls ≠ "java/lang/invoke/VarHandle") ∧ (parseMethodDescriptor (zy k).desc).map (fun d => d.parameters.length) = some na ∧ Cond.initialized (zy k).cls ∈ zWS
def zml2 (own : String) (idx : Nat) (y : MethodName) (args : Array Value) (s : State) : Prop := (Cond.methodLink own idx y).before args s = true ∨ ∃ host, (Cond.methodLinkNest own idx y host).before args s = true
set_option maxHeartbeats 1000000 in
theorem sn_cV {k k2 idx na ci ml : Nat} {C : String} {T : u_T} {F : Nat → FieldType} (ho : zOK ci C T F) (hCy : (zy k2).cls = C) (hml2 : zml k2 = ml) (hins : Cond.instanceMethod (zy k2) ∈ zWS) (hsel : Cond.selects C (zy k2) (zy k2) ∈ zWS) (cX : zCx dC dI cA ad K n E A k p Rm s m args c cells slots) (hKn : zKn K n) (hcal : zcal k2 na) (hrk : zrk k2 < zrk k) (hmx : zml k2 ≤ 21) (hlk : zml2 (zy k).cls idx (zy k2) args s) (hC : ∀ ls I L R Q, cx k2 ls I L R Q → zSW l dC dI cA ad K n E A k2 0 ls [] I L R Q) (hd : decode (zb k) pc = .ok (.invokevirtual idx, 3)) (hX : ∀ pc ls st I L R, nx pc ls st I L R → zAt p l e Rm s m args below meth c cells slots Z dC dI cA ad K n (zml k) E A pc ls st I L R) (h : z_cV ci k2 ml na K pc nx rt cx ls st I L R) : zAt p l e Rm s m args below meth c cells slots Z dC dI cA ad K n (zml k) E A pc ls st I L R := by
  subst hml2
  unfold z_cV at h
  split at h
  · rename_i as a r hz
    obtain ⟨h1, hck, h⟩ := h
    obtain ⟨hci, hcl, -⟩ := ho
    obtain ⟨hpl, hcw, hnm, hpar, hini⟩ := hcal
    obtain ⟨hx, hb, hml, hown, hts, hWd, hfr, hlo, hce, hsl⟩ := id cX
    intro hlen hE H locs lsA hl hP hD hS
    have hM := zmet (l := l) (as := (.ref a :: as : List Value)) hpl (zck_2 hck) hE hD (hC _ _ _ _ _ h)
    have hws : ∀ w ∈ (Cond.code (zy k2) (zb k2) (zml k2) (zrt k2) :: zWS), ∀ (a' : Array Value) (U : State), s.WarmedH U.vm → w.before a' U = true := pay_in hts (zgoodc hcw)
    have hsig : ∀ sig, parseMethodDescriptor (zy k2).desc = some sig → na = sig.parameters.length := fun sig q => by rw [q] at hpar; exact (Option.some.inj hpar).symm
    have hcat := zck_1 ad hck
    have hbl : FrameBlind (va_Pc (((.ref a :: as : List Value)).map (zcv ad)) (fun U => va_P (dC, dI) zcls (zwl cA ad K n I L R) U.heap ∧ zWd dC dI cA ad K n E A U)) := fun a U g mk q => ⟨q.1, q.2.1, zWd_blind (U := U) (V := U.calling g mk a) rfl rfl q.2.2⟩
    have hpc : ∀ U : State, U.heap = H → s.WarmedH U.vm → (va_Pc (((.ref a :: as : List Value)).map (zcv ad)) (fun U => va_P (dC, dI) zcls (zwl cA ad K n I L R) U.heap ∧ zWd dC dI cA ad K n E A U)) (((.ref a :: as : List Value)).map (zcv ad)).toArray U := fun U hU hW => ⟨rfl, by rw [hU]; exact hP, zWd_to hS hU hW hWd⟩
    have hlo2 : 8 + (zml k2 + 11) + 40 * zrk k2 ≤ Rm.locals := by omega
    obtain ⟨bs, e1, e2, e3⟩ := zarg_eq _ _ _ _ _ hz
    rw [List.append_nil] at e2
    subst e2
    have he := zwl_at (cA := cA) (ad := ad) (K := K) (I := I) (L := L) (R := R) (hKn a (by omega)).1
    rw [zcel_o (by omega), h1] at he
    have hrec := va_recv hWd.1 hP hcl he
    have hstk : st.map (zcv ad) = (as.map (zcv ad)).reverse ++ .ref (ad a) :: r.map (zcv ad) := by rw [e1]; simp [zcv]
    rcases hlk with hlk | ⟨host, hlk⟩
    · exact zcall (va_runV (As := as.map (zcv ad)) (rest := r.map (zcv ad)) (C := C) (n := na) (index := idx) (own := (zy k).cls) (bytes := zb k2) (maxL := zml k2) (ret := zrt k2) (Ts := zWS) ⟨hx, hb, hml, hown, hts⟩ hM ⟨⟨rfl, rfl, by show zrk k2 + 1 ≤ _; omega, hlo2, hws, List.mem_cons_self, hts _ hcw, hts _ hini, hnm, hsig, hlk⟩, hts _ hins, hts _ hsel⟩ ⟨hbl, hrec, hpc⟩ rfl (by rw [List.length_map]; exact e3) hl.1 hstk (lv_room hcat) hd ⟨hce, hsl⟩) hlen hl hS (fun v I L R q => hX _ _ _ _ _ _ q)
    · exact zcall (va_runVN (As := as.map (zcv ad)) (rest := r.map (zcv ad)) (C := C) (n := na) (index := idx) (own := (zy k).cls) (host := host) (bytes := zb k2) (maxL := zml k2) (ret := zrt k2) (Ts := zWS) ⟨hx, hb, hml, hown, hts⟩ hM ⟨⟨⟨rfl, rfl, by show zrk k2 + 1 ≤ _; omega, hlo2, hws, List.mem_cons_self⟩, hts _ hcw, hts _ hini, hnm, hsig, hlk⟩, hts _ hins, hts _ hsel⟩ ⟨hbl, hrec, hpc⟩ rfl (by rw [List.length_map]; exact e3) hl.1 hstk (lv_room hcat) hd ⟨hce, hsl⟩) hlen hl hS (fun v I L R q => hX _ _ _ _ _ _ q)
  · exact h.elim
set_option maxHeartbeats 1000000 in
theorem sn_cS {k k2 idx na ml : Nat} (hml2 : zml k2 = ml) (hsta : Cond.static (zy k2) ∈ zWS) (cX : zCx dC dI cA ad K n E A k p Rm s m args c cells slots) (hKn : zKn K n) (hcal : zcal k2 na) (hrk : zrk k2 < zrk k) (hmx : zml k2 ≤ 21) (hlk : zml2 (zy k).cls idx (zy k2) args s) (hC : ∀ ls I L R Q, cx k2 ls I L R Q → zSW l dC dI cA ad K n E A k2 0 ls [] I L R Q) (hd : decode (zb k) pc = .ok (.invokestatic idx, 3)) (hX : ∀ pc ls st I L R, nx pc ls st I L R → zAt p l e Rm s m args below meth c cells slots Z dC dI cA ad K n (zml k) E A pc ls st I L R) (h : z_cS k2 ml na K pc nx rt cx ls st I L R) : zAt p l e Rm s m args below meth c cells slots Z dC dI cA ad K n (zml k) E A pc ls st I L R := by
  subst hml2
  unfold z_cS at h
  split at h
  · rename_i as r hz
    obtain ⟨hck, h⟩ := h
    obtain ⟨hpl, hcw, hnm, hpar, hini⟩ := hcal
    obtain ⟨hx, hb, hml, hown, hts, hWd, hfr, hlo, hce, hsl⟩ := id cX
    intro hlen hE H locs lsA hl hP hD hS
    have hM := zmet (l := l) (as := as) hpl (zck_2 hck) hE hD (hC _ _ _ _ _ h)
    have hws : ∀ w ∈ (Cond.code (zy k2) (zb k2) (zml k2) (zrt k2) :: zWS), ∀ (a' : Array Value) (U : State), s.WarmedH U.vm → w.before a' U = true := pay_in hts (zgoodc hcw)
    have hsig : ∀ sig, parseMethodDescriptor (zy k2).desc = some sig → na = sig.parameters.length := fun sig q => by rw [q] at hpar; exact (Option.some.inj hpar).symm
    have hcat := zck_1 ad hck
    have hbl : FrameBlind (va_Pc ((as).map (zcv ad)) (fun U => va_P (dC, dI) zcls (zwl cA ad K n I L R) U.heap ∧ zWd dC dI cA ad K n E A U)) := fun a U g mk q => ⟨q.1, q.2.1, zWd_blind (U := U) (V := U.calling g mk a) rfl rfl q.2.2⟩
    have hpc : ∀ U : State, U.heap = H → s.WarmedH U.vm → (va_Pc ((as).map (zcv ad)) (fun U => va_P (dC, dI) zcls (zwl cA ad K n I L R) U.heap ∧ zWd dC dI cA ad K n E A U)) ((as).map (zcv ad)).toArray U := fun U hU hW => ⟨rfl, by rw [hU]; exact hP, zWd_to hS hU hW hWd⟩
    have hlo2 : 8 + (zml k2 + 11) + 40 * zrk k2 ≤ Rm.locals := by omega
    obtain ⟨bs, e1, e2, e3⟩ := zarg_eq _ _ _ _ _ hz
    rw [List.append_nil] at e2
    subst e2
    have hstk : st.map (zcv ad) = (as.map (zcv ad)).reverse ++ r.map (zcv ad) := by rw [e1]; simp
    rcases hlk with hlk | ⟨host, hlk⟩
    · exact zcall (va_runS (As := as.map (zcv ad)) (rest := r.map (zcv ad)) (n := na) (index := idx) (own := (zy k).cls) (bytes := zb k2) (maxL := zml k2) (ret := zrt k2) (Ts := zWS) ⟨hx, hb, hml, hown, hts⟩ hM ⟨⟨rfl, rfl, by show zrk k2 + 1 ≤ _; omega, hlo2, hws, List.mem_cons_self, hts _ hcw, hts _ hini, hnm, hsig, hlk⟩, hts _ hsta⟩ ⟨hbl, hpc⟩ rfl (by rw [List.length_map]; exact e3) hl.1 hstk (lv_room hcat) hd ⟨hce, hsl⟩) hlen hl hS (fun v I L R q => hX _ _ _ _ _ _ q)
    · exact zcall (va_runSN (As := as.map (zcv ad)) (rest := r.map (zcv ad)) (n := na) (index := idx) (own := (zy k).cls) (host := host) (bytes := zb k2) (maxL := zml k2) (ret := zrt k2) (Ts := zWS) ⟨hx, hb, hml, hown, hts⟩ hM ⟨⟨⟨rfl, rfl, by show zrk k2 + 1 ≤ _; omega, hlo2, hws, List.mem_cons_self⟩, hts _ hcw, hts _ hini, hnm, hsig, hlk⟩, hts _ hsta, trivial⟩ ⟨hbl, hpc⟩ rfl (by rw [List.length_map]; exact e3) hl.1 hstk (lv_room hcat) hd ⟨hce, hsl⟩) hlen hl hS (fun v I L R q => hX _ _ _ _ _ _ q)
  · exact h.elim
set_option maxHeartbeats 1000000 in
theorem sn_aald27 (hx : p.tables.exec = Jvm.exec) (hb : c.code = cc) (hK : va_K (dC, dI) zcls (ztys cA) s) (hKn : ∀ a, (K a).1 < 30 → (2 ≤ a ∧ a < n + 2) ∧ (K a).2 < 2 ^ 31) (hd : decode cc pc = .ok (.aaload, 1)) (hX : ∀ pc ls st I L R, nx pc ls st I L R → zAt p l e Rm s m args below meth c cells slots Z dC dI cA ad K n nL E A pc ls st I L R) (h : z_aald 27 K pc nx rt cx ls st I L R) : zAt p l e Rm s m args below meth c cells slots Z dC dI cA ad K n nL E A pc ls st I L R := by
  unfold z_aald at h
  split at h
  · rename_i i a r
    obtain ⟨k, j, x, h1, hi, hj, h2, h⟩ := h
    intro hlen hE H locs lsA hl hP hD hS
    obtain ⟨hr, hk⟩ := hKn a (by rw [h1]; exact Nat.le_of_ble_eq_true rfl)
    rw [h1] at hk
    have he := zwl_at (cA := cA) (ad := ad) (K := K) (I := I) (L := L) (R := R) hr
    rw [zcel_r h1 (by decide)] at he
    obtain ⟨hin, hcl⟩ := zlt_i hi hj hk
    refine W.aald (v := .ref (ad x)) (ty := .array .int) hx hb (hP (a - 2) _ he) ((hK.2 7 _ rfl).1 k (fun j => va_rf (zre ad (R a j)))) rfl (fun q => by cases q) (by show ¬ (i < 0 ∨ (arrV _ _ _).slots.size ≤ _); rw [arrV_size]; exact hin) (by show (arrV _ _ _).slots[_]? = _; rw [arrV_read _ _ (by rw [hcl]; exact hj), hcl]; show some (va_rf (zre ad (R a j))) = _; rw [h2]; rfl) rfl rfl hd ?_
    exact hX _ _ _ _ _ _ h hlen hE H locs lsA hl hP hD hS
  · exact h.elim
end ZS
end
section
/-! ===== one word an instruction ===== -/
/-- instruction q of method k keeps to the machine -/
def zSn (k : Nat) (q : Nat × ZIns) : Prop := ∀ (l : Launch) (dC : Nat → ClassId) (dI : Nat → Nat → Nat) (cA : Nat → ClassId) (ad : Nat → Nat) (K : ZKh) (n : Nat) (E : ZMi) (A : Nat → Prop), zKn K n → ∀ (ls st : List Value) (I : ZMi) (L : ZMl) (R : ZMr) (Q : ZRt),
  q.2 K q.1 (fun pc ls st I L R => zSW l dC dI cA ad K n E A k pc ls st I L R Q) Q (fun k2 ls I L R Q2 => zSW l dC dI cA ad K n E A k2 0 ls [] I L R Q2) ls st I L R → zSW l dC dI cA ad K n E A k q.1 ls st I L R Q
def zfm (own : String) (idx : Nat) (ref name desc : String) : Prop := Cond.fieldLink own idx ref name desc ∈ zWS ∨ ∃ host, Cond.fieldLinkNest own idx ref name desc host ∈ zNW
def zmm (own : String) (idx : Nat) (y : MethodName) : Prop := Cond.methodLink own idx y ∈ zWS ∨ ∃ host, Cond.methodLinkNest own idx y host ∈ zNW
theorem zfm_use {own : String} {idx : Nat} {ref name desc : String} {args : Array Value} {s : State} (h : zfm own idx ref name desc) (hts : ∀ w ∈ zWS, w.before args s = true) (hn : ∀ w ∈ zNW, va_Nw w s) : zfl own idx ref name desc args s := by
  rcases h with h | ⟨host, h⟩
  · exact Or.inl (hts _ h)
  · exact Or.inr ⟨host, va_Nw.use rfl (hn _ h)⟩
theorem zmm_use {own : String} {idx : Nat} {y : MethodName} {args : Array Value} {s : State} (h : zmm own idx y) (hts : ∀ w ∈ zWS, w.before args s = true) (hn : ∀ w ∈ zNW, va_Nw w s) : zml2 own idx y args s := by
  rcases h with h | ⟨host, h⟩
  · exact Or.inl (hts _ h)
  · exact Or.inr ⟨host, va_Nw.use rfl (hn _ h)⟩
theorem w_iconst {k pc : Nat} {v : Int32} {j : Int} (hd : decode (zb k) pc = .ok (.iconst j, 1)) (hv : Int32.ofInt j = v) : zSn k (pc, z_ic v 1) := by
  intro l dC dI cA ad K n E A hKn ls st I L R Q h p e Rm s m args below meth c cells slots Z cX hR
  obtain ⟨hx, hb, hml, hown, hts, hWd, hfr, hlo, hce, hsl⟩ := id cX
  have hX := fun pc ls st I L R (q : zSW l dC dI cA ad K n E A k pc ls st I L R Q) => q p e Rm s m args below meth c cells slots Z cX hR
  have hC := fun (k2 : Nat) ls I L R Q (q : zSW l dC dI cA ad K n E A k2 0 ls [] I L R Q) => q
  exact sn_iconst (nx := fun pc ls st I L R => zSW l dC dI cA ad K n E A k pc ls st I L R Q) (rt := Q) (cx := fun k2 ls I L R Q2 => zSW l dC dI cA ad K n E A k2 0 ls [] I L R Q2) hx hb hd hv hX h
theorem w_bipush {k pc : Nat} {v : Int32} {j : Int} (hd : decode (zb k) pc = .ok (.bipush j, 2)) (hv : (Int8.ofInt j).toInt32 = v) : zSn k (pc, z_ic v 2) := by
  intro l dC dI cA ad K n E A hKn ls st I L R Q h p e Rm s m args below meth c cells slots Z cX hR
  obtain ⟨hx, hb, hml, hown, hts, hWd, hfr, hlo, hce, hsl⟩ := id cX
  have hX := fun pc ls st I L R (q : zSW l dC dI cA ad K n E A k pc ls st I L R Q) => q p e Rm s m args below meth c cells slots Z cX hR
  have hC := fun (k2 : Nat) ls I L R Q (q : zSW l dC dI cA ad K n E A k2 0 ls [] I L R Q) => q
  exact sn_bipush (nx := fun pc ls st I L R => zSW l dC dI cA ad K n E A k pc ls st I L R Q) (rt := Q) (cx := fun k2 ls I L R Q2 => zSW l dC dI cA ad K n E A k2 0 ls [] I L R Q2) hx hb hd hv hX h
theorem w_sipush {k pc : Nat} {v : Int32} {j : Int} (hd : decode (zb k) pc = .ok (.sipush j, 3)) (hv : (Int16.ofInt j).toInt32 = v) : zSn k (pc, z_ic v 3) := by
  intro l dC dI cA ad K n E A hKn ls st I L R Q h p e Rm s m args below meth c cells slots Z cX hR
  obtain ⟨hx, hb, hml, hown, hts, hWd, hfr, hlo, hce, hsl⟩ := id cX
  have hX := fun pc ls st I L R (q : zSW l dC dI cA ad K n E A k pc ls st I L R Q) => q p e Rm s m args below meth c cells slots Z cX hR
  have hC := fun (k2 : Nat) ls I L R Q (q : zSW l dC dI cA ad K n E A k2 0 ls [] I L R Q) => q
  exact sn_sipush (nx := fun pc ls st I L R => zSW l dC dI cA ad K n E A k pc ls st I L R Q) (rt := Q) (cx := fun k2 ls I L R Q2 => zSW l dC dI cA ad K n E A k2 0 ls [] I L R Q2) hx hb hd hv hX h
theorem w_lconst {k pc : Nat} {v : Int64} {j : Fin 2} (hd : decode (zb k) pc = .ok (.lconst j, 1)) (hv : Int64.ofNat (j : Nat) = v) : zSn k (pc, z_lc v 1) := by
  intro l dC dI cA ad K n E A hKn ls st I L R Q h p e Rm s m args below meth c cells slots Z cX hR
  obtain ⟨hx, hb, hml, hown, hts, hWd, hfr, hlo, hce, hsl⟩ := id cX
  have hX := fun pc ls st I L R (q : zSW l dC dI cA ad K n E A k pc ls st I L R Q) => q p e Rm s m args below meth c cells slots Z cX hR
  have hC := fun (k2 : Nat) ls I L R Q (q : zSW l dC dI cA ad K n E A k2 0 ls [] I L R Q) => q
  exact sn_lconst (nx := fun pc ls st I L R => zSW l dC dI cA ad K n E A k pc ls st I L R Q) (rt := Q) (cx := fun k2 ls I L R Q2 => zSW l dC dI cA ad K n E A k2 0 ls [] I L R Q2) hx hb hd hv hX h
theorem w_ldc {k pc : Nat} {own : String} (ho : (zy k).cls = own) {v : Int32} {idx : Nat} (hc : Cond.constant own idx v ∈ zWS) (hd : decode (zb k) pc = .ok (.ldc idx, 2)) : zSn k (pc, z_ic v 2) := by
  intro l dC dI cA ad K n E A hKn ls st I L R Q h p e Rm s m args below meth c cells slots Z cX hR
  obtain ⟨hx, hb, hml, hown, hts, hWd, hfr, hlo, hce, hsl⟩ := id cX
  have hX := fun pc ls st I L R (q : zSW l dC dI cA ad K n E A k pc ls st I L R Q) => q p e Rm s m args below meth c cells slots Z cX hR
  have hC := fun (k2 : Nat) ls I L R Q (q : zSW l dC dI cA ad K n E A k2 0 ls [] I L R Q) => q
  exact sn_ldc (nx := fun pc ls st I L R => zSW l dC dI cA ad K n E A k pc ls st I L R Q) (rt := Q) (cx := fun k2 ls I L R Q2 => zSW l dC dI cA ad K n E A k2 0 ls [] I L R Q2) hx hb (ho ▸ hown) (hts _ hc) hd hX h
theorem w_ldcw {k pc : Nat} {own : String} (ho : (zy k).cls = own) {v : Int32} {idx : Nat} (hc : Cond.constant own idx v ∈ zWS) (hd : decode (zb k) pc = .ok (.ldc_w idx, 3)) : zSn k (pc, z_ic v 3) := by
  intro l dC dI cA ad K n E A hKn ls st I L R Q h p e Rm s m args below meth c cells slots Z cX hR
  obtain ⟨hx, hb, hml, hown, hts, hWd, hfr, hlo, hce, hsl⟩ := id cX
  have hX := fun pc ls st I L R (q : zSW l dC dI cA ad K n E A k pc ls st I L R Q) => q p e Rm s m args below meth c cells slots Z cX hR
  have hC := fun (k2 : Nat) ls I L R Q (q : zSW l dC dI cA ad K n E A k2 0 ls [] I L R Q) => q
  exact sn_ldcw (nx := fun pc ls st I L R => zSW l dC dI cA ad K n E A k pc ls st I L R Q) (rt := Q) (cx := fun k2 ls I L R Q2 => zSW l dC dI cA ad K n E A k2 0 ls [] I L R Q2) hx hb (ho ▸ hown) (hts _ hc) hd hX h
theorem w_ldc2 {k pc : Nat} {own : String} (ho : (zy k).cls = own) {v : Int64} {idx : Nat} (hc : Cond.constantLong own idx v ∈ zWS) (hd : decode (zb k) pc = .ok (.ldc2_w idx, 3)) : zSn k (pc, z_lc v 3) := by
  intro l dC dI cA ad K n E A hKn ls st I L R Q h p e Rm s m args below meth c cells slots Z cX hR
  obtain ⟨hx, hb, hml, hown, hts, hWd, hfr, hlo, hce, hsl⟩ := id cX
  have hX := fun pc ls st I L R (q : zSW l dC dI cA ad K n E A k pc ls st I L R Q) => q p e Rm s m args below meth c cells slots Z cX hR
  have hC := fun (k2 : Nat) ls I L R Q (q : zSW l dC dI cA ad K n E A k2 0 ls [] I L R Q) => q
  exact sn_ldc2 (nx := fun pc ls st I L R => zSW l dC dI cA ad K n E A k pc ls st I L R Q) (rt := Q) (cx := fun k2 ls I L R Q2 => zSW l dC dI cA ad K n E A k2 0 ls [] I L R Q2) hx hb (ho ▸ hown) (hts _ hc) hd hX h
theorem w_iload {k pc : Nat} {i : Nat} (hd : decode (zb k) pc = .ok (.iload i, 2)) : zSn k (pc, z_il i 2) := by
  intro l dC dI cA ad K n E A hKn ls st I L R Q h p e Rm s m args below meth c cells slots Z cX hR
  obtain ⟨hx, hb, hml, hown, hts, hWd, hfr, hlo, hce, hsl⟩ := id cX
  have hX := fun pc ls st I L R (q : zSW l dC dI cA ad K n E A k pc ls st I L R Q) => q p e Rm s m args below meth c cells slots Z cX hR
  have hC := fun (k2 : Nat) ls I L R Q (q : zSW l dC dI cA ad K n E A k2 0 ls [] I L R Q) => q
  exact sn_iload (nx := fun pc ls st I L R => zSW l dC dI cA ad K n E A k pc ls st I L R Q) (rt := Q) (cx := fun k2 ls I L R Q2 => zSW l dC dI cA ad K n E A k2 0 ls [] I L R Q2) hx hb hd hX h
theorem w_iload_n {k pc : Nat} {i : Nat} {j : Fin 4} (hd : decode (zb k) pc = .ok (.iload_n j, 1)) (hj : (j : Nat) = i) : zSn k (pc, z_il i 1) := by
  intro l dC dI cA ad K n E A hKn ls st I L R Q h p e Rm s m args below meth c cells slots Z cX hR
  obtain ⟨hx, hb, hml, hown, hts, hWd, hfr, hlo, hce, hsl⟩ := id cX
  have hX := fun pc ls st I L R (q : zSW l dC dI cA ad K n E A k pc ls st I L R Q) => q p e Rm s m args below meth c cells slots Z cX hR
  have hC := fun (k2 : Nat) ls I L R Q (q : zSW l dC dI cA ad K n E A k2 0 ls [] I L R Q) => q
  exact sn_iload_n (nx := fun pc ls st I L R => zSW l dC dI cA ad K n E A k pc ls st I L R Q) (rt := Q) (cx := fun k2 ls I L R Q2 => zSW l dC dI cA ad K n E A k2 0 ls [] I L R Q2) hx hb hd hj hX h
theorem w_lload {k pc : Nat} {i : Nat} (hd : decode (zb k) pc = .ok (.lload i, 2)) : zSn k (pc, z_ll i 2) := by
  intro l dC dI cA ad K n E A hKn ls st I L R Q h p e Rm s m args below meth c cells slots Z cX hR
  obtain ⟨hx, hb, hml, hown, hts, hWd, hfr, hlo, hce, hsl⟩ := id cX
  have hX := fun pc ls st I L R (q : zSW l dC dI cA ad K n E A k pc ls st I L R Q) => q p e Rm s m args below meth c cells slots Z cX hR
  have hC := fun (k2 : Nat) ls I L R Q (q : zSW l dC dI cA ad K n E A k2 0 ls [] I L R Q) => q
  exact sn_lload (nx := fun pc ls st I L R => zSW l dC dI cA ad K n E A k pc ls st I L R Q) (rt := Q) (cx := fun k2 ls I L R Q2 => zSW l dC dI cA ad K n E A k2 0 ls [] I L R Q2) hx hb hd hX h
theorem w_lload_n {k pc : Nat} {i : Nat} {j : Fin 4} (hd : decode (zb k) pc = .ok (.lload_n j, 1)) (hj : (j : Nat) = i) : zSn k (pc, z_ll i 1) := by
  intro l dC dI cA ad K n E A hKn ls st I L R Q h p e Rm s m args below meth c cells slots Z cX hR
  obtain ⟨hx, hb, hml, hown, hts, hWd, hfr, hlo, hce, hsl⟩ := id cX
  have hX := fun pc ls st I L R (q : zSW l dC dI cA ad K n E A k pc ls st I L R Q) => q p e Rm s m args below meth c cells slots Z cX hR
  have hC := fun (k2 : Nat) ls I L R Q (q : zSW l dC dI cA ad K n E A k2 0 ls [] I L R Q) => q
  exact sn_lload_n (nx := fun pc ls st I L R => zSW l dC dI cA ad K n E A k pc ls st I L R Q) (rt := Q) (cx := fun k2 ls I L R Q2 => zSW l dC dI cA ad K n E A k2 0 ls [] I L R Q2) hx hb hd hj hX h
theorem w_aload {k pc : Nat} {i : Nat} (hd : decode (zb k) pc = .ok (.aload i, 2)) : zSn k (pc, z_al i 2) := by
  intro l dC dI cA ad K n E A hKn ls st I L R Q h p e Rm s m args below meth c cells slots Z cX hR
  obtain ⟨hx, hb, hml, hown, hts, hWd, hfr, hlo, hce, hsl⟩ := id cX
  have hX := fun pc ls st I L R (q : zSW l dC dI cA ad K n E A k pc ls st I L R Q) => q p e Rm s m args below meth c cells slots Z cX hR
  have hC := fun (k2 : Nat) ls I L R Q (q : zSW l dC dI cA ad K n E A k2 0 ls [] I L R Q) => q
  exact sn_aload (nx := fun pc ls st I L R => zSW l dC dI cA ad K n E A k pc ls st I L R Q) (rt := Q) (cx := fun k2 ls I L R Q2 => zSW l dC dI cA ad K n E A k2 0 ls [] I L R Q2) hx hb hd hX h
theorem w_aload_n {k pc : Nat} {i : Nat} {j : Fin 4} (hd : decode (zb k) pc = .ok (.aload_n j, 1)) (hj : (j : Nat) = i) : zSn k (pc, z_al i 1) := by
  intro l dC dI cA ad K n E A hKn ls st I L R Q h p e Rm s m args below meth c cells slots Z cX hR
  obtain ⟨hx, hb, hml, hown, hts, hWd, hfr, hlo, hce, hsl⟩ := id cX
  have hX := fun pc ls st I L R (q : zSW l dC dI cA ad K n E A k pc ls st I L R Q) => q p e Rm s m args below meth c cells slots Z cX hR
  have hC := fun (k2 : Nat) ls I L R Q (q : zSW l dC dI cA ad K n E A k2 0 ls [] I L R Q) => q
  exact sn_aload_n (nx := fun pc ls st I L R => zSW l dC dI cA ad K n E A k pc ls st I L R Q) (rt := Q) (cx := fun k2 ls I L R Q2 => zSW l dC dI cA ad K n E A k2 0 ls [] I L R Q2) hx hb hd hj hX h
theorem w_istore {k pc : Nat} {i : Nat} (hd : decode (zb k) pc = .ok (.istore i, 2)) : zSn k (pc, z_is i 2) := by
  intro l dC dI cA ad K n E A hKn ls st I L R Q h p e Rm s m args below meth c cells slots Z cX hR
  obtain ⟨hx, hb, hml, hown, hts, hWd, hfr, hlo, hce, hsl⟩ := id cX
  have hX := fun pc ls st I L R (q : zSW l dC dI cA ad K n E A k pc ls st I L R Q) => q p e Rm s m args below meth c cells slots Z cX hR
  have hC := fun (k2 : Nat) ls I L R Q (q : zSW l dC dI cA ad K n E A k2 0 ls [] I L R Q) => q
  exact sn_istore (nx := fun pc ls st I L R => zSW l dC dI cA ad K n E A k pc ls st I L R Q) (rt := Q) (cx := fun k2 ls I L R Q2 => zSW l dC dI cA ad K n E A k2 0 ls [] I L R Q2) hx hb hd hX h
theorem w_istore_n {k pc : Nat} {i : Nat} {j : Fin 4} (hd : decode (zb k) pc = .ok (.istore_n j, 1)) (hj : (j : Nat) = i) : zSn k (pc, z_is i 1) := by
  intro l dC dI cA ad K n E A hKn ls st I L R Q h p e Rm s m args below meth c cells slots Z cX hR
  obtain ⟨hx, hb, hml, hown, hts, hWd, hfr, hlo, hce, hsl⟩ := id cX
  have hX := fun pc ls st I L R (q : zSW l dC dI cA ad K n E A k pc ls st I L R Q) => q p e Rm s m args below meth c cells slots Z cX hR
  have hC := fun (k2 : Nat) ls I L R Q (q : zSW l dC dI cA ad K n E A k2 0 ls [] I L R Q) => q
  exact sn_istore_n (nx := fun pc ls st I L R => zSW l dC dI cA ad K n E A k pc ls st I L R Q) (rt := Q) (cx := fun k2 ls I L R Q2 => zSW l dC dI cA ad K n E A k2 0 ls [] I L R Q2) hx hb hd hj hX h
theorem w_lstore {k pc : Nat} {i : Nat} (hd : decode (zb k) pc = .ok (.lstore i, 2)) : zSn k (pc, z_ls i 2) := by
  intro l dC dI cA ad K n E A hKn ls st I L R Q h p e Rm s m args below meth c cells slots Z cX hR
  obtain ⟨hx, hb, hml, hown, hts, hWd, hfr, hlo, hce, hsl⟩ := id cX
  have hX := fun pc ls st I L R (q : zSW l dC dI cA ad K n E A k pc ls st I L R Q) => q p e Rm s m args below meth c cells slots Z cX hR
  have hC := fun (k2 : Nat) ls I L R Q (q : zSW l dC dI cA ad K n E A k2 0 ls [] I L R Q) => q
  exact sn_lstore (nx := fun pc ls st I L R => zSW l dC dI cA ad K n E A k pc ls st I L R Q) (rt := Q) (cx := fun k2 ls I L R Q2 => zSW l dC dI cA ad K n E A k2 0 ls [] I L R Q2) hx hb hd hX h
theorem w_lstore_n {k pc : Nat} {i : Nat} {j : Fin 4} (hd : decode (zb k) pc = .ok (.lstore_n j, 1)) (hj : (j : Nat) = i) : zSn k (pc, z_ls i 1) := by
  intro l dC dI cA ad K n E A hKn ls st I L R Q h p e Rm s m args below meth c cells slots Z cX hR
  obtain ⟨hx, hb, hml, hown, hts, hWd, hfr, hlo, hce, hsl⟩ := id cX
  have hX := fun pc ls st I L R (q : zSW l dC dI cA ad K n E A k pc ls st I L R Q) => q p e Rm s m args below meth c cells slots Z cX hR
  have hC := fun (k2 : Nat) ls I L R Q (q : zSW l dC dI cA ad K n E A k2 0 ls [] I L R Q) => q
  exact sn_lstore_n (nx := fun pc ls st I L R => zSW l dC dI cA ad K n E A k pc ls st I L R Q) (rt := Q) (cx := fun k2 ls I L R Q2 => zSW l dC dI cA ad K n E A k2 0 ls [] I L R Q2) hx hb hd hj hX h
theorem w_astore {k pc : Nat} {i : Nat} (hd : decode (zb k) pc = .ok (.astore i, 2)) : zSn k (pc, z_as i 2) := by
  intro l dC dI cA ad K n E A hKn ls st I L R Q h p e Rm s m args below meth c cells slots Z cX hR
  obtain ⟨hx, hb, hml, hown, hts, hWd, hfr, hlo, hce, hsl⟩ := id cX
  have hX := fun pc ls st I L R (q : zSW l dC dI cA ad K n E A k pc ls st I L R Q) => q p e Rm s m args below meth c cells slots Z cX hR
  have hC := fun (k2 : Nat) ls I L R Q (q : zSW l dC dI cA ad K n E A k2 0 ls [] I L R Q) => q
  exact sn_astore (nx := fun pc ls st I L R => zSW l dC dI cA ad K n E A k pc ls st I L R Q) (rt := Q) (cx := fun k2 ls I L R Q2 => zSW l dC dI cA ad K n E A k2 0 ls [] I L R Q2) hx hb hd hX h
theorem w_astore_n {k pc : Nat} {i : Nat} {j : Fin 4} (hd : decode (zb k) pc = .ok (.astore_n j, 1)) (hj : (j : Nat) = i) : zSn k (pc, z_as i 1) := by
  intro l dC dI cA ad K n E A hKn ls st I L R Q h p e Rm s m args below meth c cells slots Z cX hR
  obtain ⟨hx, hb, hml, hown, hts, hWd, hfr, hlo, hce, hsl⟩ := id cX
  have hX := fun pc ls st I L R (q : zSW l dC dI cA ad K n E A k pc ls st I L R Q) => q p e Rm s m args below meth c cells slots Z cX hR
  have hC := fun (k2 : Nat) ls I L R Q (q : zSW l dC dI cA ad K n E A k2 0 ls [] I L R Q) => q
  exact sn_astore_n (nx := fun pc ls st I L R => zSW l dC dI cA ad K n E A k pc ls st I L R Q) (rt := Q) (cx := fun k2 ls I L R Q2 => zSW l dC dI cA ad K n E A k2 0 ls [] I L R Q2) hx hb hd hj hX h
theorem w_iinc {k pc : Nat} {i : Nat} {d : Int32} {j : Int} (hd : decode (zb k) pc = .ok (.iinc i j, 3)) (hj : Int32.ofInt j = d) : zSn k (pc, z_inc i d) := by
  intro l dC dI cA ad K n E A hKn ls st I L R Q h p e Rm s m args below meth c cells slots Z cX hR
  obtain ⟨hx, hb, hml, hown, hts, hWd, hfr, hlo, hce, hsl⟩ := id cX
  have hX := fun pc ls st I L R (q : zSW l dC dI cA ad K n E A k pc ls st I L R Q) => q p e Rm s m args below meth c cells slots Z cX hR
  have hC := fun (k2 : Nat) ls I L R Q (q : zSW l dC dI cA ad K n E A k2 0 ls [] I L R Q) => q
  exact sn_iinc (nx := fun pc ls st I L R => zSW l dC dI cA ad K n E A k pc ls st I L R Q) (rt := Q) (cx := fun k2 ls I L R Q2 => zSW l dC dI cA ad K n E A k2 0 ls [] I L R Q2) hx hb hd hj hX h
theorem w_iadd {k pc : Nat} (hd : decode (zb k) pc = .ok (.iadd, 1)) : zSn k (pc, z_iadd) := by
  intro l dC dI cA ad K n E A hKn ls st I L R Q h p e Rm s m args below meth c cells slots Z cX hR
  obtain ⟨hx, hb, hml, hown, hts, hWd, hfr, hlo, hce, hsl⟩ := id cX
  have hX := fun pc ls st I L R (q : zSW l dC dI cA ad K n E A k pc ls st I L R Q) => q p e Rm s m args below meth c cells slots Z cX hR
  have hC := fun (k2 : Nat) ls I L R Q (q : zSW l dC dI cA ad K n E A k2 0 ls [] I L R Q) => q
  exact sn_iadd (nx := fun pc ls st I L R => zSW l dC dI cA ad K n E A k pc ls st I L R Q) (rt := Q) (cx := fun k2 ls I L R Q2 => zSW l dC dI cA ad K n E A k2 0 ls [] I L R Q2) hx hb hd hX h
theorem w_isub {k pc : Nat} (hd : decode (zb k) pc = .ok (.isub, 1)) : zSn k (pc, z_isub) := by
  intro l dC dI cA ad K n E A hKn ls st I L R Q h p e Rm s m args below meth c cells slots Z cX hR
  obtain ⟨hx, hb, hml, hown, hts, hWd, hfr, hlo, hce, hsl⟩ := id cX
  have hX := fun pc ls st I L R (q : zSW l dC dI cA ad K n E A k pc ls st I L R Q) => q p e Rm s m args below meth c cells slots Z cX hR
  have hC := fun (k2 : Nat) ls I L R Q (q : zSW l dC dI cA ad K n E A k2 0 ls [] I L R Q) => q
  exact sn_isub (nx := fun pc ls st I L R => zSW l dC dI cA ad K n E A k pc ls st I L R Q) (rt := Q) (cx := fun k2 ls I L R Q2 => zSW l dC dI cA ad K n E A k2 0 ls [] I L R Q2) hx hb hd hX h
theorem w_imul {k pc : Nat} (hd : decode (zb k) pc = .ok (.imul, 1)) : zSn k (pc, z_imul) := by
  intro l dC dI cA ad K n E A hKn ls st I L R Q h p e Rm s m args below meth c cells slots Z cX hR
  obtain ⟨hx, hb, hml, hown, hts, hWd, hfr, hlo, hce, hsl⟩ := id cX
  have hX := fun pc ls st I L R (q : zSW l dC dI cA ad K n E A k pc ls st I L R Q) => q p e Rm s m args below meth c cells slots Z cX hR
  have hC := fun (k2 : Nat) ls I L R Q (q : zSW l dC dI cA ad K n E A k2 0 ls [] I L R Q) => q
  exact sn_imul (nx := fun pc ls st I L R => zSW l dC dI cA ad K n E A k pc ls st I L R Q) (rt := Q) (cx := fun k2 ls I L R Q2 => zSW l dC dI cA ad K n E A k2 0 ls [] I L R Q2) hx hb hd hX h
theorem w_iand {k pc : Nat} (hd : decode (zb k) pc = .ok (.iand, 1)) : zSn k (pc, z_iand) := by
  intro l dC dI cA ad K n E A hKn ls st I L R Q h p e Rm s m args below meth c cells slots Z cX hR
  obtain ⟨hx, hb, hml, hown, hts, hWd, hfr, hlo, hce, hsl⟩ := id cX
  have hX := fun pc ls st I L R (q : zSW l dC dI cA ad K n E A k pc ls st I L R Q) => q p e Rm s m args below meth c cells slots Z cX hR
  have hC := fun (k2 : Nat) ls I L R Q (q : zSW l dC dI cA ad K n E A k2 0 ls [] I L R Q) => q
  exact sn_iand (nx := fun pc ls st I L R => zSW l dC dI cA ad K n E A k pc ls st I L R Q) (rt := Q) (cx := fun k2 ls I L R Q2 => zSW l dC dI cA ad K n E A k2 0 ls [] I L R Q2) hx hb hd hX h
theorem w_ior {k pc : Nat} (hd : decode (zb k) pc = .ok (.ior, 1)) : zSn k (pc, z_ior) := by
  intro l dC dI cA ad K n E A hKn ls st I L R Q h p e Rm s m args below meth c cells slots Z cX hR
  obtain ⟨hx, hb, hml, hown, hts, hWd, hfr, hlo, hce, hsl⟩ := id cX
  have hX := fun pc ls st I L R (q : zSW l dC dI cA ad K n E A k pc ls st I L R Q) => q p e Rm s m args below meth c cells slots Z cX hR
  have hC := fun (k2 : Nat) ls I L R Q (q : zSW l dC dI cA ad K n E A k2 0 ls [] I L R Q) => q
  exact sn_ior (nx := fun pc ls st I L R => zSW l dC dI cA ad K n E A k pc ls st I L R Q) (rt := Q) (cx := fun k2 ls I L R Q2 => zSW l dC dI cA ad K n E A k2 0 ls [] I L R Q2) hx hb hd hX h
theorem w_ixor {k pc : Nat} (hd : decode (zb k) pc = .ok (.ixor, 1)) : zSn k (pc, z_ixor) := by
  intro l dC dI cA ad K n E A hKn ls st I L R Q h p e Rm s m args below meth c cells slots Z cX hR
  obtain ⟨hx, hb, hml, hown, hts, hWd, hfr, hlo, hce, hsl⟩ := id cX
  have hX := fun pc ls st I L R (q : zSW l dC dI cA ad K n E A k pc ls st I L R Q) => q p e Rm s m args below meth c cells slots Z cX hR
  have hC := fun (k2 : Nat) ls I L R Q (q : zSW l dC dI cA ad K n E A k2 0 ls [] I L R Q) => q
  exact sn_ixor (nx := fun pc ls st I L R => zSW l dC dI cA ad K n E A k pc ls st I L R Q) (rt := Q) (cx := fun k2 ls I L R Q2 => zSW l dC dI cA ad K n E A k2 0 ls [] I L R Q2) hx hb hd hX h
theorem w_ineg {k pc : Nat} (hd : decode (zb k) pc = .ok (.ineg, 1)) : zSn k (pc, z_ineg) := by
  intro l dC dI cA ad K n E A hKn ls st I L R Q h p e Rm s m args below meth c cells slots Z cX hR
  obtain ⟨hx, hb, hml, hown, hts, hWd, hfr, hlo, hce, hsl⟩ := id cX
  have hX := fun pc ls st I L R (q : zSW l dC dI cA ad K n E A k pc ls st I L R Q) => q p e Rm s m args below meth c cells slots Z cX hR
  have hC := fun (k2 : Nat) ls I L R Q (q : zSW l dC dI cA ad K n E A k2 0 ls [] I L R Q) => q
  exact sn_ineg (nx := fun pc ls st I L R => zSW l dC dI cA ad K n E A k pc ls st I L R Q) (rt := Q) (cx := fun k2 ls I L R Q2 => zSW l dC dI cA ad K n E A k2 0 ls [] I L R Q2) hx hb hd hX h
theorem w_ishl {k pc : Nat} (hd : decode (zb k) pc = .ok (.ishl, 1)) : zSn k (pc, z_ishl) := by
  intro l dC dI cA ad K n E A hKn ls st I L R Q h p e Rm s m args below meth c cells slots Z cX hR
  obtain ⟨hx, hb, hml, hown, hts, hWd, hfr, hlo, hce, hsl⟩ := id cX
  have hX := fun pc ls st I L R (q : zSW l dC dI cA ad K n E A k pc ls st I L R Q) => q p e Rm s m args below meth c cells slots Z cX hR
  have hC := fun (k2 : Nat) ls I L R Q (q : zSW l dC dI cA ad K n E A k2 0 ls [] I L R Q) => q
  exact sn_ishl (nx := fun pc ls st I L R => zSW l dC dI cA ad K n E A k pc ls st I L R Q) (rt := Q) (cx := fun k2 ls I L R Q2 => zSW l dC dI cA ad K n E A k2 0 ls [] I L R Q2) hx hb hd hX h
theorem w_ishr {k pc : Nat} (hd : decode (zb k) pc = .ok (.ishr, 1)) : zSn k (pc, z_ishr) := by
  intro l dC dI cA ad K n E A hKn ls st I L R Q h p e Rm s m args below meth c cells slots Z cX hR
  obtain ⟨hx, hb, hml, hown, hts, hWd, hfr, hlo, hce, hsl⟩ := id cX
  have hX := fun pc ls st I L R (q : zSW l dC dI cA ad K n E A k pc ls st I L R Q) => q p e Rm s m args below meth c cells slots Z cX hR
  have hC := fun (k2 : Nat) ls I L R Q (q : zSW l dC dI cA ad K n E A k2 0 ls [] I L R Q) => q
  exact sn_ishr (nx := fun pc ls st I L R => zSW l dC dI cA ad K n E A k pc ls st I L R Q) (rt := Q) (cx := fun k2 ls I L R Q2 => zSW l dC dI cA ad K n E A k2 0 ls [] I L R Q2) hx hb hd hX h
theorem w_ladd {k pc : Nat} (hd : decode (zb k) pc = .ok (.ladd, 1)) : zSn k (pc, z_ladd) := by
  intro l dC dI cA ad K n E A hKn ls st I L R Q h p e Rm s m args below meth c cells slots Z cX hR
  obtain ⟨hx, hb, hml, hown, hts, hWd, hfr, hlo, hce, hsl⟩ := id cX
  have hX := fun pc ls st I L R (q : zSW l dC dI cA ad K n E A k pc ls st I L R Q) => q p e Rm s m args below meth c cells slots Z cX hR
  have hC := fun (k2 : Nat) ls I L R Q (q : zSW l dC dI cA ad K n E A k2 0 ls [] I L R Q) => q
  exact sn_ladd (nx := fun pc ls st I L R => zSW l dC dI cA ad K n E A k pc ls st I L R Q) (rt := Q) (cx := fun k2 ls I L R Q2 => zSW l dC dI cA ad K n E A k2 0 ls [] I L R Q2) hx hb hd hX h
theorem w_lsub {k pc : Nat} (hd : decode (zb k) pc = .ok (.lsub, 1)) : zSn k (pc, z_lsub) := by
  intro l dC dI cA ad K n E A hKn ls st I L R Q h p e Rm s m args below meth c cells slots Z cX hR
  obtain ⟨hx, hb, hml, hown, hts, hWd, hfr, hlo, hce, hsl⟩ := id cX
  have hX := fun pc ls st I L R (q : zSW l dC dI cA ad K n E A k pc ls st I L R Q) => q p e Rm s m args below meth c cells slots Z cX hR
  have hC := fun (k2 : Nat) ls I L R Q (q : zSW l dC dI cA ad K n E A k2 0 ls [] I L R Q) => q
  exact sn_lsub (nx := fun pc ls st I L R => zSW l dC dI cA ad K n E A k pc ls st I L R Q) (rt := Q) (cx := fun k2 ls I L R Q2 => zSW l dC dI cA ad K n E A k2 0 ls [] I L R Q2) hx hb hd hX h
theorem w_lmul {k pc : Nat} (hd : decode (zb k) pc = .ok (.lmul, 1)) : zSn k (pc, z_lmul) := by
  intro l dC dI cA ad K n E A hKn ls st I L R Q h p e Rm s m args below meth c cells slots Z cX hR
  obtain ⟨hx, hb, hml, hown, hts, hWd, hfr, hlo, hce, hsl⟩ := id cX
  have hX := fun pc ls st I L R (q : zSW l dC dI cA ad K n E A k pc ls st I L R Q) => q p e Rm s m args below meth c cells slots Z cX hR
  have hC := fun (k2 : Nat) ls I L R Q (q : zSW l dC dI cA ad K n E A k2 0 ls [] I L R Q) => q
  exact sn_lmul (nx := fun pc ls st I L R => zSW l dC dI cA ad K n E A k pc ls st I L R Q) (rt := Q) (cx := fun k2 ls I L R Q2 => zSW l dC dI cA ad K n E A k2 0 ls [] I L R Q2) hx hb hd hX h
theorem w_land {k pc : Nat} (hd : decode (zb k) pc = .ok (.land, 1)) : zSn k (pc, z_land) := by
  intro l dC dI cA ad K n E A hKn ls st I L R Q h p e Rm s m args below meth c cells slots Z cX hR
  obtain ⟨hx, hb, hml, hown, hts, hWd, hfr, hlo, hce, hsl⟩ := id cX
  have hX := fun pc ls st I L R (q : zSW l dC dI cA ad K n E A k pc ls st I L R Q) => q p e Rm s m args below meth c cells slots Z cX hR
  have hC := fun (k2 : Nat) ls I L R Q (q : zSW l dC dI cA ad K n E A k2 0 ls [] I L R Q) => q
  exact sn_land (nx := fun pc ls st I L R => zSW l dC dI cA ad K n E A k pc ls st I L R Q) (rt := Q) (cx := fun k2 ls I L R Q2 => zSW l dC dI cA ad K n E A k2 0 ls [] I L R Q2) hx hb hd hX h
theorem w_lor {k pc : Nat} (hd : decode (zb k) pc = .ok (.lor, 1)) : zSn k (pc, z_lor) := by
  intro l dC dI cA ad K n E A hKn ls st I L R Q h p e Rm s m args below meth c cells slots Z cX hR
  obtain ⟨hx, hb, hml, hown, hts, hWd, hfr, hlo, hce, hsl⟩ := id cX
  have hX := fun pc ls st I L R (q : zSW l dC dI cA ad K n E A k pc ls st I L R Q) => q p e Rm s m args below meth c cells slots Z cX hR
  have hC := fun (k2 : Nat) ls I L R Q (q : zSW l dC dI cA ad K n E A k2 0 ls [] I L R Q) => q
  exact sn_lor (nx := fun pc ls st I L R => zSW l dC dI cA ad K n E A k pc ls st I L R Q) (rt := Q) (cx := fun k2 ls I L R Q2 => zSW l dC dI cA ad K n E A k2 0 ls [] I L R Q2) hx hb hd hX h
theorem w_iushr {k pc : Nat} (hd : decode (zb k) pc = .ok (.iushr, 1)) : zSn k (pc, z_iushr) := by
  intro l dC dI cA ad K n E A hKn ls st I L R Q h p e Rm s m args below meth c cells slots Z cX hR
  obtain ⟨hx, hb, hml, hown, hts, hWd, hfr, hlo, hce, hsl⟩ := id cX
  have hX := fun pc ls st I L R (q : zSW l dC dI cA ad K n E A k pc ls st I L R Q) => q p e Rm s m args below meth c cells slots Z cX hR
  have hC := fun (k2 : Nat) ls I L R Q (q : zSW l dC dI cA ad K n E A k2 0 ls [] I L R Q) => q
  exact sn_iushr (nx := fun pc ls st I L R => zSW l dC dI cA ad K n E A k pc ls st I L R Q) (rt := Q) (cx := fun k2 ls I L R Q2 => zSW l dC dI cA ad K n E A k2 0 ls [] I L R Q2) hx hb hd hX h
theorem w_lshl {k pc : Nat} (hd : decode (zb k) pc = .ok (.lshl, 1)) : zSn k (pc, z_lshl) := by
  intro l dC dI cA ad K n E A hKn ls st I L R Q h p e Rm s m args below meth c cells slots Z cX hR
  obtain ⟨hx, hb, hml, hown, hts, hWd, hfr, hlo, hce, hsl⟩ := id cX
  have hX := fun pc ls st I L R (q : zSW l dC dI cA ad K n E A k pc ls st I L R Q) => q p e Rm s m args below meth c cells slots Z cX hR
  have hC := fun (k2 : Nat) ls I L R Q (q : zSW l dC dI cA ad K n E A k2 0 ls [] I L R Q) => q
  exact sn_lshl (nx := fun pc ls st I L R => zSW l dC dI cA ad K n E A k pc ls st I L R Q) (rt := Q) (cx := fun k2 ls I L R Q2 => zSW l dC dI cA ad K n E A k2 0 ls [] I L R Q2) hx hb hd hX h
theorem w_lshr {k pc : Nat} (hd : decode (zb k) pc = .ok (.lshr, 1)) : zSn k (pc, z_lshr) := by
  intro l dC dI cA ad K n E A hKn ls st I L R Q h p e Rm s m args below meth c cells slots Z cX hR
  obtain ⟨hx, hb, hml, hown, hts, hWd, hfr, hlo, hce, hsl⟩ := id cX
  have hX := fun pc ls st I L R (q : zSW l dC dI cA ad K n E A k pc ls st I L R Q) => q p e Rm s m args below meth c cells slots Z cX hR
  have hC := fun (k2 : Nat) ls I L R Q (q : zSW l dC dI cA ad K n E A k2 0 ls [] I L R Q) => q
  exact sn_lshr (nx := fun pc ls st I L R => zSW l dC dI cA ad K n E A k pc ls st I L R Q) (rt := Q) (cx := fun k2 ls I L R Q2 => zSW l dC dI cA ad K n E A k2 0 ls [] I L R Q2) hx hb hd hX h
theorem w_lushr {k pc : Nat} (hd : decode (zb k) pc = .ok (.lushr, 1)) : zSn k (pc, z_lushr) := by
  intro l dC dI cA ad K n E A hKn ls st I L R Q h p e Rm s m args below meth c cells slots Z cX hR
  obtain ⟨hx, hb, hml, hown, hts, hWd, hfr, hlo, hce, hsl⟩ := id cX
  have hX := fun pc ls st I L R (q : zSW l dC dI cA ad K n E A k pc ls st I L R Q) => q p e Rm s m args below meth c cells slots Z cX hR
  have hC := fun (k2 : Nat) ls I L R Q (q : zSW l dC dI cA ad K n E A k2 0 ls [] I L R Q) => q
  exact sn_lushr (nx := fun pc ls st I L R => zSW l dC dI cA ad K n E A k pc ls st I L R Q) (rt := Q) (cx := fun k2 ls I L R Q2 => zSW l dC dI cA ad K n E A k2 0 ls [] I L R Q2) hx hb hd hX h
theorem w_i2l {k pc : Nat} (hd : decode (zb k) pc = .ok (.i2l, 1)) : zSn k (pc, z_i2l) := by
  intro l dC dI cA ad K n E A hKn ls st I L R Q h p e Rm s m args below meth c cells slots Z cX hR
  obtain ⟨hx, hb, hml, hown, hts, hWd, hfr, hlo, hce, hsl⟩ := id cX
  have hX := fun pc ls st I L R (q : zSW l dC dI cA ad K n E A k pc ls st I L R Q) => q p e Rm s m args below meth c cells slots Z cX hR
  have hC := fun (k2 : Nat) ls I L R Q (q : zSW l dC dI cA ad K n E A k2 0 ls [] I L R Q) => q
  exact sn_i2l (nx := fun pc ls st I L R => zSW l dC dI cA ad K n E A k pc ls st I L R Q) (rt := Q) (cx := fun k2 ls I L R Q2 => zSW l dC dI cA ad K n E A k2 0 ls [] I L R Q2) hx hb hd hX h
theorem w_l2i {k pc : Nat} (hd : decode (zb k) pc = .ok (.l2i, 1)) : zSn k (pc, z_l2i) := by
  intro l dC dI cA ad K n E A hKn ls st I L R Q h p e Rm s m args below meth c cells slots Z cX hR
  obtain ⟨hx, hb, hml, hown, hts, hWd, hfr, hlo, hce, hsl⟩ := id cX
  have hX := fun pc ls st I L R (q : zSW l dC dI cA ad K n E A k pc ls st I L R Q) => q p e Rm s m args below meth c cells slots Z cX hR
  have hC := fun (k2 : Nat) ls I L R Q (q : zSW l dC dI cA ad K n E A k2 0 ls [] I L R Q) => q
  exact sn_l2i (nx := fun pc ls st I L R => zSW l dC dI cA ad K n E A k pc ls st I L R Q) (rt := Q) (cx := fun k2 ls I L R Q2 => zSW l dC dI cA ad K n E A k2 0 ls [] I L R Q2) hx hb hd hX h
theorem w_i2b {k pc : Nat} (hd : decode (zb k) pc = .ok (.i2b, 1)) : zSn k (pc, z_i2b) := by
  intro l dC dI cA ad K n E A hKn ls st I L R Q h p e Rm s m args below meth c cells slots Z cX hR
  obtain ⟨hx, hb, hml, hown, hts, hWd, hfr, hlo, hce, hsl⟩ := id cX
  have hX := fun pc ls st I L R (q : zSW l dC dI cA ad K n E A k pc ls st I L R Q) => q p e Rm s m args below meth c cells slots Z cX hR
  have hC := fun (k2 : Nat) ls I L R Q (q : zSW l dC dI cA ad K n E A k2 0 ls [] I L R Q) => q
  exact sn_i2b (nx := fun pc ls st I L R => zSW l dC dI cA ad K n E A k pc ls st I L R Q) (rt := Q) (cx := fun k2 ls I L R Q2 => zSW l dC dI cA ad K n E A k2 0 ls [] I L R Q2) hx hb hd hX h
theorem w_idiv {k pc : Nat} (hd : decode (zb k) pc = .ok (.idiv, 1)) : zSn k (pc, z_idiv) := by
  intro l dC dI cA ad K n E A hKn ls st I L R Q h p e Rm s m args below meth c cells slots Z cX hR
  obtain ⟨hx, hb, hml, hown, hts, hWd, hfr, hlo, hce, hsl⟩ := id cX
  have hX := fun pc ls st I L R (q : zSW l dC dI cA ad K n E A k pc ls st I L R Q) => q p e Rm s m args below meth c cells slots Z cX hR
  have hC := fun (k2 : Nat) ls I L R Q (q : zSW l dC dI cA ad K n E A k2 0 ls [] I L R Q) => q
  exact sn_idiv (nx := fun pc ls st I L R => zSW l dC dI cA ad K n E A k pc ls st I L R Q) (rt := Q) (cx := fun k2 ls I L R Q2 => zSW l dC dI cA ad K n E A k2 0 ls [] I L R Q2) hx hb hd hX h
theorem w_irem {k pc : Nat} (hd : decode (zb k) pc = .ok (.irem, 1)) : zSn k (pc, z_irem) := by
  intro l dC dI cA ad K n E A hKn ls st I L R Q h p e Rm s m args below meth c cells slots Z cX hR
  obtain ⟨hx, hb, hml, hown, hts, hWd, hfr, hlo, hce, hsl⟩ := id cX
  have hX := fun pc ls st I L R (q : zSW l dC dI cA ad K n E A k pc ls st I L R Q) => q p e Rm s m args below meth c cells slots Z cX hR
  have hC := fun (k2 : Nat) ls I L R Q (q : zSW l dC dI cA ad K n E A k2 0 ls [] I L R Q) => q
  exact sn_irem (nx := fun pc ls st I L R => zSW l dC dI cA ad K n E A k pc ls st I L R Q) (rt := Q) (cx := fun k2 ls I L R Q2 => zSW l dC dI cA ad K n E A k2 0 ls [] I L R Q2) hx hb hd hX h
theorem w_ldiv {k pc : Nat} (hd : decode (zb k) pc = .ok (.ldiv, 1)) : zSn k (pc, z_ldiv) := by
  intro l dC dI cA ad K n E A hKn ls st I L R Q h p e Rm s m args below meth c cells slots Z cX hR
  obtain ⟨hx, hb, hml, hown, hts, hWd, hfr, hlo, hce, hsl⟩ := id cX
  have hX := fun pc ls st I L R (q : zSW l dC dI cA ad K n E A k pc ls st I L R Q) => q p e Rm s m args below meth c cells slots Z cX hR
  have hC := fun (k2 : Nat) ls I L R Q (q : zSW l dC dI cA ad K n E A k2 0 ls [] I L R Q) => q
  exact sn_ldiv (nx := fun pc ls st I L R => zSW l dC dI cA ad K n E A k pc ls st I L R Q) (rt := Q) (cx := fun k2 ls I L R Q2 => zSW l dC dI cA ad K n E A k2 0 ls [] I L R Q2) hx hb hd hX h
theorem w_lrem {k pc : Nat} (hd : decode (zb k) pc = .ok (.lrem, 1)) : zSn k (pc, z_lrem) := by
  intro l dC dI cA ad K n E A hKn ls st I L R Q h p e Rm s m args below meth c cells slots Z cX hR
  obtain ⟨hx, hb, hml, hown, hts, hWd, hfr, hlo, hce, hsl⟩ := id cX
  have hX := fun pc ls st I L R (q : zSW l dC dI cA ad K n E A k pc ls st I L R Q) => q p e Rm s m args below meth c cells slots Z cX hR
  have hC := fun (k2 : Nat) ls I L R Q (q : zSW l dC dI cA ad K n E A k2 0 ls [] I L R Q) => q
  exact sn_lrem (nx := fun pc ls st I L R => zSW l dC dI cA ad K n E A k pc ls st I L R Q) (rt := Q) (cx := fun k2 ls I L R Q2 => zSW l dC dI cA ad K n E A k2 0 ls [] I L R Q2) hx hb hd hX h
theorem w_lcmp {k pc : Nat} (hd : decode (zb k) pc = .ok (.lcmp, 1)) : zSn k (pc, z_lcmp) := by
  intro l dC dI cA ad K n E A hKn ls st I L R Q h p e Rm s m args below meth c cells slots Z cX hR
  obtain ⟨hx, hb, hml, hown, hts, hWd, hfr, hlo, hce, hsl⟩ := id cX
  have hX := fun pc ls st I L R (q : zSW l dC dI cA ad K n E A k pc ls st I L R Q) => q p e Rm s m args below meth c cells slots Z cX hR
  have hC := fun (k2 : Nat) ls I L R Q (q : zSW l dC dI cA ad K n E A k2 0 ls [] I L R Q) => q
  exact sn_lcmp (nx := fun pc ls st I L R => zSW l dC dI cA ad K n E A k pc ls st I L R Q) (rt := Q) (cx := fun k2 ls I L R Q2 => zSW l dC dI cA ad K n E A k2 0 ls [] I L R Q2) hx hb hd hX h
theorem w_dup {k pc : Nat} (hd : decode (zb k) pc = .ok (.dup, 1)) : zSn k (pc, z_dup) := by
  intro l dC dI cA ad K n E A hKn ls st I L R Q h p e Rm s m args below meth c cells slots Z cX hR
  obtain ⟨hx, hb, hml, hown, hts, hWd, hfr, hlo, hce, hsl⟩ := id cX
  have hX := fun pc ls st I L R (q : zSW l dC dI cA ad K n E A k pc ls st I L R Q) => q p e Rm s m args below meth c cells slots Z cX hR
  have hC := fun (k2 : Nat) ls I L R Q (q : zSW l dC dI cA ad K n E A k2 0 ls [] I L R Q) => q
  exact sn_dup (nx := fun pc ls st I L R => zSW l dC dI cA ad K n E A k pc ls st I L R Q) (rt := Q) (cx := fun k2 ls I L R Q2 => zSW l dC dI cA ad K n E A k2 0 ls [] I L R Q2) hx hb hd hX h
theorem w_pop {k pc : Nat} (hd : decode (zb k) pc = .ok (.pop, 1)) : zSn k (pc, z_pop) := by
  intro l dC dI cA ad K n E A hKn ls st I L R Q h p e Rm s m args below meth c cells slots Z cX hR
  obtain ⟨hx, hb, hml, hown, hts, hWd, hfr, hlo, hce, hsl⟩ := id cX
  have hX := fun pc ls st I L R (q : zSW l dC dI cA ad K n E A k pc ls st I L R Q) => q p e Rm s m args below meth c cells slots Z cX hR
  have hC := fun (k2 : Nat) ls I L R Q (q : zSW l dC dI cA ad K n E A k2 0 ls [] I L R Q) => q
  exact sn_pop (nx := fun pc ls st I L R => zSW l dC dI cA ad K n E A k pc ls st I L R Q) (rt := Q) (cx := fun k2 ls I L R Q2 => zSW l dC dI cA ad K n E A k2 0 ls [] I L R Q2) hx hb hd hX h
theorem w_dup2 {k pc : Nat} (hd : decode (zb k) pc = .ok (.dup2, 1)) : zSn k (pc, z_dup2) := by
  intro l dC dI cA ad K n E A hKn ls st I L R Q h p e Rm s m args below meth c cells slots Z cX hR
  obtain ⟨hx, hb, hml, hown, hts, hWd, hfr, hlo, hce, hsl⟩ := id cX
  have hX := fun pc ls st I L R (q : zSW l dC dI cA ad K n E A k pc ls st I L R Q) => q p e Rm s m args below meth c cells slots Z cX hR
  have hC := fun (k2 : Nat) ls I L R Q (q : zSW l dC dI cA ad K n E A k2 0 ls [] I L R Q) => q
  exact sn_dup2 (nx := fun pc ls st I L R => zSW l dC dI cA ad K n E A k pc ls st I L R Q) (rt := Q) (cx := fun k2 ls I L R Q2 => zSW l dC dI cA ad K n E A k2 0 ls [] I L R Q2) hx hb hd hX h
theorem w_goto {k pc : Nat} {t : Nat} {off : Int} (hd : decode (zb k) pc = .ok (.goto off, 3)) (ht : (pc : Int) + off = (t : Int)) : zSn k (pc, z_goto t) := by
  intro l dC dI cA ad K n E A hKn ls st I L R Q h p e Rm s m args below meth c cells slots Z cX hR
  obtain ⟨hx, hb, hml, hown, hts, hWd, hfr, hlo, hce, hsl⟩ := id cX
  have hX := fun pc ls st I L R (q : zSW l dC dI cA ad K n E A k pc ls st I L R Q) => q p e Rm s m args below meth c cells slots Z cX hR
  have hC := fun (k2 : Nat) ls I L R Q (q : zSW l dC dI cA ad K n E A k2 0 ls [] I L R Q) => q
  exact sn_goto (nx := fun pc ls st I L R => zSW l dC dI cA ad K n E A k pc ls st I L R Q) (rt := Q) (cx := fun k2 ls I L R Q2 => zSW l dC dI cA ad K n E A k2 0 ls [] I L R Q2) hx hb hd ht hX h
theorem w_ifeq {k pc : Nat} {t : Nat} {off : Int} (hd : decode (zb k) pc = .ok (.ifCond .eq off, 3)) (ht : (pc : Int) + off = (t : Int)) : zSn k (pc, z_ifeq t) := by
  intro l dC dI cA ad K n E A hKn ls st I L R Q h p e Rm s m args below meth c cells slots Z cX hR
  obtain ⟨hx, hb, hml, hown, hts, hWd, hfr, hlo, hce, hsl⟩ := id cX
  have hX := fun pc ls st I L R (q : zSW l dC dI cA ad K n E A k pc ls st I L R Q) => q p e Rm s m args below meth c cells slots Z cX hR
  have hC := fun (k2 : Nat) ls I L R Q (q : zSW l dC dI cA ad K n E A k2 0 ls [] I L R Q) => q
  exact sn_ifeq (nx := fun pc ls st I L R => zSW l dC dI cA ad K n E A k pc ls st I L R Q) (rt := Q) (cx := fun k2 ls I L R Q2 => zSW l dC dI cA ad K n E A k2 0 ls [] I L R Q2) hx hb hd ht hX h
theorem w_ieq {k pc : Nat} {t : Nat} {off : Int} (hd : decode (zb k) pc = .ok (.if_icmp .eq off, 3)) (ht : (pc : Int) + off = (t : Int)) : zSn k (pc, z_ieq t) := by
  intro l dC dI cA ad K n E A hKn ls st I L R Q h p e Rm s m args below meth c cells slots Z cX hR
  obtain ⟨hx, hb, hml, hown, hts, hWd, hfr, hlo, hce, hsl⟩ := id cX
  have hX := fun pc ls st I L R (q : zSW l dC dI cA ad K n E A k pc ls st I L R Q) => q p e Rm s m args below meth c cells slots Z cX hR
  have hC := fun (k2 : Nat) ls I L R Q (q : zSW l dC dI cA ad K n E A k2 0 ls [] I L R Q) => q
  exact sn_ieq (nx := fun pc ls st I L R => zSW l dC dI cA ad K n E A k pc ls st I L R Q) (rt := Q) (cx := fun k2 ls I L R Q2 => zSW l dC dI cA ad K n E A k2 0 ls [] I L R Q2) hx hb hd ht hX h
theorem w_ifne {k pc : Nat} {t : Nat} {off : Int} (hd : decode (zb k) pc = .ok (.ifCond .ne off, 3)) (ht : (pc : Int) + off = (t : Int)) : zSn k (pc, z_ifne t) := by
  intro l dC dI cA ad K n E A hKn ls st I L R Q h p e Rm s m args below meth c cells slots Z cX hR
  obtain ⟨hx, hb, hml, hown, hts, hWd, hfr, hlo, hce, hsl⟩ := id cX
  have hX := fun pc ls st I L R (q : zSW l dC dI cA ad K n E A k pc ls st I L R Q) => q p e Rm s m args below meth c cells slots Z cX hR
  have hC := fun (k2 : Nat) ls I L R Q (q : zSW l dC dI cA ad K n E A k2 0 ls [] I L R Q) => q
  exact sn_ifne (nx := fun pc ls st I L R => zSW l dC dI cA ad K n E A k pc ls st I L R Q) (rt := Q) (cx := fun k2 ls I L R Q2 => zSW l dC dI cA ad K n E A k2 0 ls [] I L R Q2) hx hb hd ht hX h
theorem w_ine {k pc : Nat} {t : Nat} {off : Int} (hd : decode (zb k) pc = .ok (.if_icmp .ne off, 3)) (ht : (pc : Int) + off = (t : Int)) : zSn k (pc, z_ine t) := by
  intro l dC dI cA ad K n E A hKn ls st I L R Q h p e Rm s m args below meth c cells slots Z cX hR
  obtain ⟨hx, hb, hml, hown, hts, hWd, hfr, hlo, hce, hsl⟩ := id cX
  have hX := fun pc ls st I L R (q : zSW l dC dI cA ad K n E A k pc ls st I L R Q) => q p e Rm s m args below meth c cells slots Z cX hR
  have hC := fun (k2 : Nat) ls I L R Q (q : zSW l dC dI cA ad K n E A k2 0 ls [] I L R Q) => q
  exact sn_ine (nx := fun pc ls st I L R => zSW l dC dI cA ad K n E A k pc ls st I L R Q) (rt := Q) (cx := fun k2 ls I L R Q2 => zSW l dC dI cA ad K n E A k2 0 ls [] I L R Q2) hx hb hd ht hX h
theorem w_iflt {k pc : Nat} {t : Nat} {off : Int} (hd : decode (zb k) pc = .ok (.ifCond .lt off, 3)) (ht : (pc : Int) + off = (t : Int)) : zSn k (pc, z_iflt t) := by
  intro l dC dI cA ad K n E A hKn ls st I L R Q h p e Rm s m args below meth c cells slots Z cX hR
  obtain ⟨hx, hb, hml, hown, hts, hWd, hfr, hlo, hce, hsl⟩ := id cX
  have hX := fun pc ls st I L R (q : zSW l dC dI cA ad K n E A k pc ls st I L R Q) => q p e Rm s m args below meth c cells slots Z cX hR
  have hC := fun (k2 : Nat) ls I L R Q (q : zSW l dC dI cA ad K n E A k2 0 ls [] I L R Q) => q
  exact sn_iflt (nx := fun pc ls st I L R => zSW l dC dI cA ad K n E A k pc ls st I L R Q) (rt := Q) (cx := fun k2 ls I L R Q2 => zSW l dC dI cA ad K n E A k2 0 ls [] I L R Q2) hx hb hd ht hX h
theorem w_ilt {k pc : Nat} {t : Nat} {off : Int} (hd : decode (zb k) pc = .ok (.if_icmp .lt off, 3)) (ht : (pc : Int) + off = (t : Int)) : zSn k (pc, z_ilt t) := by
  intro l dC dI cA ad K n E A hKn ls st I L R Q h p e Rm s m args below meth c cells slots Z cX hR
  obtain ⟨hx, hb, hml, hown, hts, hWd, hfr, hlo, hce, hsl⟩ := id cX
  have hX := fun pc ls st I L R (q : zSW l dC dI cA ad K n E A k pc ls st I L R Q) => q p e Rm s m args below meth c cells slots Z cX hR
  have hC := fun (k2 : Nat) ls I L R Q (q : zSW l dC dI cA ad K n E A k2 0 ls [] I L R Q) => q
  exact sn_ilt (nx := fun pc ls st I L R => zSW l dC dI cA ad K n E A k pc ls st I L R Q) (rt := Q) (cx := fun k2 ls I L R Q2 => zSW l dC dI cA ad K n E A k2 0 ls [] I L R Q2) hx hb hd ht hX h
theorem w_ifge {k pc : Nat} {t : Nat} {off : Int} (hd : decode (zb k) pc = .ok (.ifCond .ge off, 3)) (ht : (pc : Int) + off = (t : Int)) : zSn k (pc, z_ifge t) := by
  intro l dC dI cA ad K n E A hKn ls st I L R Q h p e Rm s m args below meth c cells slots Z cX hR
  obtain ⟨hx, hb, hml, hown, hts, hWd, hfr, hlo, hce, hsl⟩ := id cX
  have hX := fun pc ls st I L R (q : zSW l dC dI cA ad K n E A k pc ls st I L R Q) => q p e Rm s m args below meth c cells slots Z cX hR
  have hC := fun (k2 : Nat) ls I L R Q (q : zSW l dC dI cA ad K n E A k2 0 ls [] I L R Q) => q
  exact sn_ifge (nx := fun pc ls st I L R => zSW l dC dI cA ad K n E A k pc ls st I L R Q) (rt := Q) (cx := fun k2 ls I L R Q2 => zSW l dC dI cA ad K n E A k2 0 ls [] I L R Q2) hx hb hd ht hX h
theorem w_ige {k pc : Nat} {t : Nat} {off : Int} (hd : decode (zb k) pc = .ok (.if_icmp .ge off, 3)) (ht : (pc : Int) + off = (t : Int)) : zSn k (pc, z_ige t) := by
  intro l dC dI cA ad K n E A hKn ls st I L R Q h p e Rm s m args below meth c cells slots Z cX hR
  obtain ⟨hx, hb, hml, hown, hts, hWd, hfr, hlo, hce, hsl⟩ := id cX
  have hX := fun pc ls st I L R (q : zSW l dC dI cA ad K n E A k pc ls st I L R Q) => q p e Rm s m args below meth c cells slots Z cX hR
  have hC := fun (k2 : Nat) ls I L R Q (q : zSW l dC dI cA ad K n E A k2 0 ls [] I L R Q) => q
  exact sn_ige (nx := fun pc ls st I L R => zSW l dC dI cA ad K n E A k pc ls st I L R Q) (rt := Q) (cx := fun k2 ls I L R Q2 => zSW l dC dI cA ad K n E A k2 0 ls [] I L R Q2) hx hb hd ht hX h
theorem w_ifgt {k pc : Nat} {t : Nat} {off : Int} (hd : decode (zb k) pc = .ok (.ifCond .gt off, 3)) (ht : (pc : Int) + off = (t : Int)) : zSn k (pc, z_ifgt t) := by
  intro l dC dI cA ad K n E A hKn ls st I L R Q h p e Rm s m args below meth c cells slots Z cX hR
  obtain ⟨hx, hb, hml, hown, hts, hWd, hfr, hlo, hce, hsl⟩ := id cX
  have hX := fun pc ls st I L R (q : zSW l dC dI cA ad K n E A k pc ls st I L R Q) => q p e Rm s m args below meth c cells slots Z cX hR
  have hC := fun (k2 : Nat) ls I L R Q (q : zSW l dC dI cA ad K n E A k2 0 ls [] I L R Q) => q
  exact sn_ifgt (nx := fun pc ls st I L R => zSW l dC dI cA ad K n E A k pc ls st I L R Q) (rt := Q) (cx := fun k2 ls I L R Q2 => zSW l dC dI cA ad K n E A k2 0 ls [] I L R Q2) hx hb hd ht hX h
theorem w_igt {k pc : Nat} {t : Nat} {off : Int} (hd : decode (zb k) pc = .ok (.if_icmp .gt off, 3)) (ht : (pc : Int) + off = (t : Int)) : zSn k (pc, z_igt t) := by
  intro l dC dI cA ad K n E A hKn ls st I L R Q h p e Rm s m args below meth c cells slots Z cX hR
  obtain ⟨hx, hb, hml, hown, hts, hWd, hfr, hlo, hce, hsl⟩ := id cX
  have hX := fun pc ls st I L R (q : zSW l dC dI cA ad K n E A k pc ls st I L R Q) => q p e Rm s m args below meth c cells slots Z cX hR
  have hC := fun (k2 : Nat) ls I L R Q (q : zSW l dC dI cA ad K n E A k2 0 ls [] I L R Q) => q
  exact sn_igt (nx := fun pc ls st I L R => zSW l dC dI cA ad K n E A k pc ls st I L R Q) (rt := Q) (cx := fun k2 ls I L R Q2 => zSW l dC dI cA ad K n E A k2 0 ls [] I L R Q2) hx hb hd ht hX h
theorem w_ifle {k pc : Nat} {t : Nat} {off : Int} (hd : decode (zb k) pc = .ok (.ifCond .le off, 3)) (ht : (pc : Int) + off = (t : Int)) : zSn k (pc, z_ifle t) := by
  intro l dC dI cA ad K n E A hKn ls st I L R Q h p e Rm s m args below meth c cells slots Z cX hR
  obtain ⟨hx, hb, hml, hown, hts, hWd, hfr, hlo, hce, hsl⟩ := id cX
  have hX := fun pc ls st I L R (q : zSW l dC dI cA ad K n E A k pc ls st I L R Q) => q p e Rm s m args below meth c cells slots Z cX hR
  have hC := fun (k2 : Nat) ls I L R Q (q : zSW l dC dI cA ad K n E A k2 0 ls [] I L R Q) => q
  exact sn_ifle (nx := fun pc ls st I L R => zSW l dC dI cA ad K n E A k pc ls st I L R Q) (rt := Q) (cx := fun k2 ls I L R Q2 => zSW l dC dI cA ad K n E A k2 0 ls [] I L R Q2) hx hb hd ht hX h
theorem w_ile {k pc : Nat} {t : Nat} {off : Int} (hd : decode (zb k) pc = .ok (.if_icmp .le off, 3)) (ht : (pc : Int) + off = (t : Int)) : zSn k (pc, z_ile t) := by
  intro l dC dI cA ad K n E A hKn ls st I L R Q h p e Rm s m args below meth c cells slots Z cX hR
  obtain ⟨hx, hb, hml, hown, hts, hWd, hfr, hlo, hce, hsl⟩ := id cX
  have hX := fun pc ls st I L R (q : zSW l dC dI cA ad K n E A k pc ls st I L R Q) => q p e Rm s m args below meth c cells slots Z cX hR
  have hC := fun (k2 : Nat) ls I L R Q (q : zSW l dC dI cA ad K n E A k2 0 ls [] I L R Q) => q
  exact sn_ile (nx := fun pc ls st I L R => zSW l dC dI cA ad K n E A k pc ls st I L R Q) (rt := Q) (cx := fun k2 ls I L R Q2 => zSW l dC dI cA ad K n E A k2 0 ls [] I L R Q2) hx hb hd ht hX h
theorem w_tsw {k pc : Nat} {d : Nat} {qs : List (Int32 × Nat)} {dflt lo hi : Int} {offs : Array Int} {len : Nat} (hd : decode (zb k) pc = .ok (.tableswitch dflt lo hi offs, len)) (hdt : (pc : Int) + dflt = (d : Int)) (hlen2 : (qs.length : Int) = hi - lo + 1) (hq : (List.range qs.length).all (fun i => match qs[i]?, offs[i]? with | some q, some off => decide (q.1.toInt = lo + i) && decide ((pc : Int) + off = (q.2 : Int)) | _, _ => false) = true) : zSn k (pc, z_sw d qs) := by
  intro l dC dI cA ad K n E A hKn ls st I L R Q h p e Rm s m args below meth c cells slots Z cX hR
  obtain ⟨hx, hb, hml, hown, hts, hWd, hfr, hlo, hce, hsl⟩ := id cX
  have hX := fun pc ls st I L R (q : zSW l dC dI cA ad K n E A k pc ls st I L R Q) => q p e Rm s m args below meth c cells slots Z cX hR
  have hC := fun (k2 : Nat) ls I L R Q (q : zSW l dC dI cA ad K n E A k2 0 ls [] I L R Q) => q
  exact sn_tsw (nx := fun pc ls st I L R => zSW l dC dI cA ad K n E A k pc ls st I L R Q) (rt := Q) (cx := fun k2 ls I L R Q2 => zSW l dC dI cA ad K n E A k2 0 ls [] I L R Q2) hx hb hd hdt hlen2 (fun i q hi => by
    have h1 := List.all_eq_true.mp hq i (List.mem_range.mpr (List.getElem?_eq_some_iff.mp hi).1)
    rw [hi] at h1
    cases ho : offs[i]? with
    | none => rw [ho] at h1; simp at h1
    | some off => rw [ho] at h1; simp only [Bool.and_eq_true, decide_eq_true_eq] at h1; exact ⟨h1.1, off, rfl, h1.2⟩) hX h
theorem w_lsw {k pc : Nat} {d : Nat} {qs : List (Int32 × Nat)} {dflt : Int} {ps : Array (Int × Int)} {len : Nat} (hd : decode (zb k) pc = .ok (.lookupswitch dflt ps, len)) (hps : (ps.toList.zip (ps.toList.drop 1)).all (fun (a, next) => a.1 < next.1) = true) (hdt : (pc : Int) + dflt = (d : Int)) (hq : ps.toList.map (fun q => (q.1, (pc : Int) + q.2)) = qs.map (fun q => (q.1.toInt, (q.2 : Int)))) : zSn k (pc, z_sw d qs) := by
  intro l dC dI cA ad K n E A hKn ls st I L R Q h p e Rm s m args below meth c cells slots Z cX hR
  obtain ⟨hx, hb, hml, hown, hts, hWd, hfr, hlo, hce, hsl⟩ := id cX
  have hX := fun pc ls st I L R (q : zSW l dC dI cA ad K n E A k pc ls st I L R Q) => q p e Rm s m args below meth c cells slots Z cX hR
  have hC := fun (k2 : Nat) ls I L R Q (q : zSW l dC dI cA ad K n E A k2 0 ls [] I L R Q) => q
  exact sn_lsw (nx := fun pc ls st I L R => zSW l dC dI cA ad K n E A k pc ls st I L R Q) (rt := Q) (cx := fun k2 ls I L R Q2 => zSW l dC dI cA ad K n E A k2 0 ls [] I L R Q2) hx hb hd hps hdt hq hX h
theorem w_gI {k pc : Nat} {own : String} (how : (zy k).cls = own) {ci j idx : Nat} {C : String} {T : u_T} {F : Nat → FieldType} (ho : zOK ci C T F) (hj : j < zN ci) (hlk : zfm own idx (T j).1 (T j).2.1 (T j).2.2.1) (hty : zty ci j = 0) (hd : decode (zb k) pc = .ok (.getfield idx, 3)) : zSn k (pc, z_gI ci j) := by
  intro l dC dI cA ad K n E A hKn ls st I L R Q h p e Rm s m args below meth c cells slots Z cX hR
  obtain ⟨hx, hb, hml, hown, hts, hWd, hfr, hlo, hce, hsl⟩ := id cX
  have hX := fun pc ls st I L R (q : zSW l dC dI cA ad K n E A k pc ls st I L R Q) => q p e Rm s m args below meth c cells slots Z cX hR
  have hC := fun (k2 : Nat) ls I L R Q (q : zSW l dC dI cA ad K n E A k2 0 ls [] I L R Q) => q
  exact sn_gI (nx := fun pc ls st I L R => zSW l dC dI cA ad K n E A k pc ls st I L R Q) (rt := Q) (cx := fun k2 ls I L R Q2 => zSW l dC dI cA ad K n E A k2 0 ls [] I L R Q2) hx hb (how ▸ hown) hts hWd.1 hKn ho hj (zfm_use hlk hts hWd.2.1) hty hd hX h
theorem w_gL {k pc : Nat} {own : String} (how : (zy k).cls = own) {ci j idx : Nat} {C : String} {T : u_T} {F : Nat → FieldType} (ho : zOK ci C T F) (hj : j < zN ci) (hlk : zfm own idx (T j).1 (T j).2.1 (T j).2.2.1) (hty : zty ci j = 1) (hd : decode (zb k) pc = .ok (.getfield idx, 3)) : zSn k (pc, z_gL ci j) := by
  intro l dC dI cA ad K n E A hKn ls st I L R Q h p e Rm s m args below meth c cells slots Z cX hR
  obtain ⟨hx, hb, hml, hown, hts, hWd, hfr, hlo, hce, hsl⟩ := id cX
  have hX := fun pc ls st I L R (q : zSW l dC dI cA ad K n E A k pc ls st I L R Q) => q p e Rm s m args below meth c cells slots Z cX hR
  have hC := fun (k2 : Nat) ls I L R Q (q : zSW l dC dI cA ad K n E A k2 0 ls [] I L R Q) => q
  exact sn_gL (nx := fun pc ls st I L R => zSW l dC dI cA ad K n E A k pc ls st I L R Q) (rt := Q) (cx := fun k2 ls I L R Q2 => zSW l dC dI cA ad K n E A k2 0 ls [] I L R Q2) hx hb (how ▸ hown) hts hWd.1 hKn ho hj (zfm_use hlk hts hWd.2.1) hty hd hX h
theorem w_gR {k pc : Nat} {own : String} (how : (zy k).cls = own) {ci j idx : Nat} {C : String} {T : u_T} {F : Nat → FieldType} (ho : zOK ci C T F) (hj : j < zN ci) (hlk : zfm own idx (T j).1 (T j).2.1 (T j).2.2.1) (hty : zty ci j = 2) (hd : decode (zb k) pc = .ok (.getfield idx, 3)) : zSn k (pc, z_gR ci j) := by
  intro l dC dI cA ad K n E A hKn ls st I L R Q h p e Rm s m args below meth c cells slots Z cX hR
  obtain ⟨hx, hb, hml, hown, hts, hWd, hfr, hlo, hce, hsl⟩ := id cX
  have hX := fun pc ls st I L R (q : zSW l dC dI cA ad K n E A k pc ls st I L R Q) => q p e Rm s m args below meth c cells slots Z cX hR
  have hC := fun (k2 : Nat) ls I L R Q (q : zSW l dC dI cA ad K n E A k2 0 ls [] I L R Q) => q
  exact sn_gR (nx := fun pc ls st I L R => zSW l dC dI cA ad K n E A k pc ls st I L R Q) (rt := Q) (cx := fun k2 ls I L R Q2 => zSW l dC dI cA ad K n E A k2 0 ls [] I L R Q2) hx hb (how ▸ hown) hts hWd.1 hKn ho hj (zfm_use hlk hts hWd.2.1) hty hd hX h
theorem w_pI {k pc : Nat} {own : String} (how : (zy k).cls = own) {ci j idx : Nat} {C : String} {T : u_T} {F : Nat → FieldType} (ho : zOK ci C T F) (hj : j < zN ci) (hlk : zfm own idx (T j).1 (T j).2.1 (T j).2.2.1) (hty : zty ci j = 0) (hfin : (T j).2.2.2 = false) (hf : F j = .int) (hd : decode (zb k) pc = .ok (.putfield idx, 3)) : zSn k (pc, z_pI ci j) := by
  intro l dC dI cA ad K n E A hKn ls st I L R Q h p e Rm s m args below meth c cells slots Z cX hR
  obtain ⟨hx, hb, hml, hown, hts, hWd, hfr, hlo, hce, hsl⟩ := id cX
  have hX := fun pc ls st I L R (q : zSW l dC dI cA ad K n E A k pc ls st I L R Q) => q p e Rm s m args below meth c cells slots Z cX hR
  have hC := fun (k2 : Nat) ls I L R Q (q : zSW l dC dI cA ad K n E A k2 0 ls [] I L R Q) => q
  exact sn_pI (nx := fun pc ls st I L R => zSW l dC dI cA ad K n E A k pc ls st I L R Q) (rt := Q) (cx := fun k2 ls I L R Q2 => zSW l dC dI cA ad K n E A k2 0 ls [] I L R Q2) hx hb (how ▸ hown) hts hWd.1 hKn ho hj (zfm_use hlk hts hWd.2.1) hty hfin hf hd hX h
theorem w_pL {k pc : Nat} {own : String} (how : (zy k).cls = own) {ci j idx : Nat} {C : String} {T : u_T} {F : Nat → FieldType} (ho : zOK ci C T F) (hj : j < zN ci) (hlk : zfm own idx (T j).1 (T j).2.1 (T j).2.2.1) (hty : zty ci j = 1) (hfin : (T j).2.2.2 = false) (hf : F j = .long) (hd : decode (zb k) pc = .ok (.putfield idx, 3)) : zSn k (pc, z_pL ci j) := by
  intro l dC dI cA ad K n E A hKn ls st I L R Q h p e Rm s m args below meth c cells slots Z cX hR
  obtain ⟨hx, hb, hml, hown, hts, hWd, hfr, hlo, hce, hsl⟩ := id cX
  have hX := fun pc ls st I L R (q : zSW l dC dI cA ad K n E A k pc ls st I L R Q) => q p e Rm s m args below meth c cells slots Z cX hR
  have hC := fun (k2 : Nat) ls I L R Q (q : zSW l dC dI cA ad K n E A k2 0 ls [] I L R Q) => q
  exact sn_pL (nx := fun pc ls st I L R => zSW l dC dI cA ad K n E A k pc ls st I L R Q) (rt := Q) (cx := fun k2 ls I L R Q2 => zSW l dC dI cA ad K n E A k2 0 ls [] I L R Q2) hx hb (how ▸ hown) hts hWd.1 hKn ho hj (zfm_use hlk hts hWd.2.1) hty hfin hf hd hX h
theorem w_pR {k pc : Nat} {own : String} (how : (zy k).cls = own) {ci j idx : Nat} {C : String} {T : u_T} {F : Nat → FieldType} (ho : zOK ci C T F) (hj : j < zN ci) (hlk : zfm own idx (T j).1 (T j).2.1 (T j).2.2.1) (hty : zty ci j = 2) (hfin : (T j).2.2.2 = false) (hf : narrow (F j) (.ref 0) = .ref 0 ∧ ∀ b, narrow (F j) (.ref b) = .ref b ∧ fits (F j) (.ref b) = true) (hd : decode (zb k) pc = .ok (.putfield idx, 3)) : zSn k (pc, z_pR ci j) := by
  intro l dC dI cA ad K n E A hKn ls st I L R Q h p e Rm s m args below meth c cells slots Z cX hR
  obtain ⟨hx, hb, hml, hown, hts, hWd, hfr, hlo, hce, hsl⟩ := id cX
  have hX := fun pc ls st I L R (q : zSW l dC dI cA ad K n E A k pc ls st I L R Q) => q p e Rm s m args below meth c cells slots Z cX hR
  have hC := fun (k2 : Nat) ls I L R Q (q : zSW l dC dI cA ad K n E A k2 0 ls [] I L R Q) => q
  exact sn_pR (nx := fun pc ls st I L R => zSW l dC dI cA ad K n E A k pc ls st I L R Q) (rt := Q) (cx := fun k2 ls I L R Q2 => zSW l dC dI cA ad K n E A k2 0 ls [] I L R Q2) hx hb (how ▸ hown) hts hWd.1 hKn ho hj (zfm_use hlk hts hWd.2.1) hty hfin hf hd hX h
theorem w_iald {k pc : Nat} (hd : decode (zb k) pc = .ok (.iaload, 1)) : zSn k (pc, z_iald 20) := by
  intro l dC dI cA ad K n E A hKn ls st I L R Q h p e Rm s m args below meth c cells slots Z cX hR
  obtain ⟨hx, hb, hml, hown, hts, hWd, hfr, hlo, hce, hsl⟩ := id cX
  have hX := fun pc ls st I L R (q : zSW l dC dI cA ad K n E A k pc ls st I L R Q) => q p e Rm s m args below meth c cells slots Z cX hR
  have hC := fun (k2 : Nat) ls I L R Q (q : zSW l dC dI cA ad K n E A k2 0 ls [] I L R Q) => q
  exact sn_iald (nx := fun pc ls st I L R => zSW l dC dI cA ad K n E A k pc ls st I L R Q) (rt := Q) (cx := fun k2 ls I L R Q2 => zSW l dC dI cA ad K n E A k2 0 ls [] I L R Q2) hx hb hWd.1 hKn hd hX h
theorem w_bald {k pc : Nat} (hd : decode (zb k) pc = .ok (.baload, 1)) : zSn k (pc, z_iald 22) := by
  intro l dC dI cA ad K n E A hKn ls st I L R Q h p e Rm s m args below meth c cells slots Z cX hR
  obtain ⟨hx, hb, hml, hown, hts, hWd, hfr, hlo, hce, hsl⟩ := id cX
  have hX := fun pc ls st I L R (q : zSW l dC dI cA ad K n E A k pc ls st I L R Q) => q p e Rm s m args below meth c cells slots Z cX hR
  have hC := fun (k2 : Nat) ls I L R Q (q : zSW l dC dI cA ad K n E A k2 0 ls [] I L R Q) => q
  exact sn_bald (nx := fun pc ls st I L R => zSW l dC dI cA ad K n E A k pc ls st I L R Q) (rt := Q) (cx := fun k2 ls I L R Q2 => zSW l dC dI cA ad K n E A k2 0 ls [] I L R Q2) hx hb hWd.1 hKn hd hX h
theorem w_zald {k pc : Nat} (hd : decode (zb k) pc = .ok (.baload, 1)) : zSn k (pc, z_iald 23) := by
  intro l dC dI cA ad K n E A hKn ls st I L R Q h p e Rm s m args below meth c cells slots Z cX hR
  obtain ⟨hx, hb, hml, hown, hts, hWd, hfr, hlo, hce, hsl⟩ := id cX
  have hX := fun pc ls st I L R (q : zSW l dC dI cA ad K n E A k pc ls st I L R Q) => q p e Rm s m args below meth c cells slots Z cX hR
  have hC := fun (k2 : Nat) ls I L R Q (q : zSW l dC dI cA ad K n E A k2 0 ls [] I L R Q) => q
  exact sn_zald (nx := fun pc ls st I L R => zSW l dC dI cA ad K n E A k pc ls st I L R Q) (rt := Q) (cx := fun k2 ls I L R Q2 => zSW l dC dI cA ad K n E A k2 0 ls [] I L R Q2) hx hb hWd.1 hKn hd hX h
theorem w_lald {k pc : Nat} (hd : decode (zb k) pc = .ok (.laload, 1)) : zSn k (pc, z_lald) := by
  intro l dC dI cA ad K n E A hKn ls st I L R Q h p e Rm s m args below meth c cells slots Z cX hR
  obtain ⟨hx, hb, hml, hown, hts, hWd, hfr, hlo, hce, hsl⟩ := id cX
  have hX := fun pc ls st I L R (q : zSW l dC dI cA ad K n E A k pc ls st I L R Q) => q p e Rm s m args below meth c cells slots Z cX hR
  have hC := fun (k2 : Nat) ls I L R Q (q : zSW l dC dI cA ad K n E A k2 0 ls [] I L R Q) => q
  exact sn_lald (nx := fun pc ls st I L R => zSW l dC dI cA ad K n E A k pc ls st I L R Q) (rt := Q) (cx := fun k2 ls I L R Q2 => zSW l dC dI cA ad K n E A k2 0 ls [] I L R Q2) hx hb hWd.1 hKn hd hX h
theorem w_aald24 {k pc : Nat} (hd : decode (zb k) pc = .ok (.aaload, 1)) : zSn k (pc, z_aald 24) := by
  intro l dC dI cA ad K n E A hKn ls st I L R Q h p e Rm s m args below meth c cells slots Z cX hR
  obtain ⟨hx, hb, hml, hown, hts, hWd, hfr, hlo, hce, hsl⟩ := id cX
  have hX := fun pc ls st I L R (q : zSW l dC dI cA ad K n E A k pc ls st I L R Q) => q p e Rm s m args below meth c cells slots Z cX hR
  have hC := fun (k2 : Nat) ls I L R Q (q : zSW l dC dI cA ad K n E A k2 0 ls [] I L R Q) => q
  exact sn_aald24 (nx := fun pc ls st I L R => zSW l dC dI cA ad K n E A k pc ls st I L R Q) (rt := Q) (cx := fun k2 ls I L R Q2 => zSW l dC dI cA ad K n E A k2 0 ls [] I L R Q2) hx hb hWd.1 hKn hd hX h
theorem w_aald25 {k pc : Nat} (hd : decode (zb k) pc = .ok (.aaload, 1)) : zSn k (pc, z_aald 25) := by
  intro l dC dI cA ad K n E A hKn ls st I L R Q h p e Rm s m args below meth c cells slots Z cX hR
  obtain ⟨hx, hb, hml, hown, hts, hWd, hfr, hlo, hce, hsl⟩ := id cX
  have hX := fun pc ls st I L R (q : zSW l dC dI cA ad K n E A k pc ls st I L R Q) => q p e Rm s m args below meth c cells slots Z cX hR
  have hC := fun (k2 : Nat) ls I L R Q (q : zSW l dC dI cA ad K n E A k2 0 ls [] I L R Q) => q
  exact sn_aald25 (nx := fun pc ls st I L R => zSW l dC dI cA ad K n E A k pc ls st I L R Q) (rt := Q) (cx := fun k2 ls I L R Q2 => zSW l dC dI cA ad K n E A k2 0 ls [] I L R Q2) hx hb hWd.1 hKn hd hX h
theorem w_aald26 {k pc : Nat} (hd : decode (zb k) pc = .ok (.aaload, 1)) : zSn k (pc, z_aald 26) := by
  intro l dC dI cA ad K n E A hKn ls st I L R Q h p e Rm s m args below meth c cells slots Z cX hR
  obtain ⟨hx, hb, hml, hown, hts, hWd, hfr, hlo, hce, hsl⟩ := id cX
  have hX := fun pc ls st I L R (q : zSW l dC dI cA ad K n E A k pc ls st I L R Q) => q p e Rm s m args below meth c cells slots Z cX hR
  have hC := fun (k2 : Nat) ls I L R Q (q : zSW l dC dI cA ad K n E A k2 0 ls [] I L R Q) => q
  exact sn_aald26 (nx := fun pc ls st I L R => zSW l dC dI cA ad K n E A k pc ls st I L R Q) (rt := Q) (cx := fun k2 ls I L R Q2 => zSW l dC dI cA ad K n E A k2 0 ls [] I L R Q2) hx hb hWd.1 hKn hd hX h
theorem w_aald27 {k pc : Nat} (hd : decode (zb k) pc = .ok (.aaload, 1)) : zSn k (pc, z_aald 27) := by
  intro l dC dI cA ad K n E A hKn ls st I L R Q h p e Rm s m args below meth c cells slots Z cX hR
  obtain ⟨hx, hb, hml, hown, hts, hWd, hfr, hlo, hce, hsl⟩ := id cX
  have hX := fun pc ls st I L R (q : zSW l dC dI cA ad K n E A k pc ls st I L R Q) => q p e Rm s m args below meth c cells slots Z cX hR
  have hC := fun (k2 : Nat) ls I L R Q (q : zSW l dC dI cA ad K n E A k2 0 ls [] I L R Q) => q
  exact sn_aald27 (nx := fun pc ls st I L R => zSW l dC dI cA ad K n E A k pc ls st I L R Q) (rt := Q) (cx := fun k2 ls I L R Q2 => zSW l dC dI cA ad K n E A k2 0 ls [] I L R Q2) hx hb hWd.1 hKn hd hX h
theorem w_iast {k pc : Nat} (hd : decode (zb k) pc = .ok (.iastore, 1)) : zSn k (pc, z_iast) := by
  intro l dC dI cA ad K n E A hKn ls st I L R Q h p e Rm s m args below meth c cells slots Z cX hR
  obtain ⟨hx, hb, hml, hown, hts, hWd, hfr, hlo, hce, hsl⟩ := id cX
  have hX := fun pc ls st I L R (q : zSW l dC dI cA ad K n E A k pc ls st I L R Q) => q p e Rm s m args below meth c cells slots Z cX hR
  have hC := fun (k2 : Nat) ls I L R Q (q : zSW l dC dI cA ad K n E A k2 0 ls [] I L R Q) => q
  exact sn_iast (nx := fun pc ls st I L R => zSW l dC dI cA ad K n E A k pc ls st I L R Q) (rt := Q) (cx := fun k2 ls I L R Q2 => zSW l dC dI cA ad K n E A k2 0 ls [] I L R Q2) hx hb hWd.1 hKn hd hX h
theorem w_bast {k pc : Nat} (hd : decode (zb k) pc = .ok (.bastore, 1)) : zSn k (pc, z_bast) := by
  intro l dC dI cA ad K n E A hKn ls st I L R Q h p e Rm s m args below meth c cells slots Z cX hR
  obtain ⟨hx, hb, hml, hown, hts, hWd, hfr, hlo, hce, hsl⟩ := id cX
  have hX := fun pc ls st I L R (q : zSW l dC dI cA ad K n E A k pc ls st I L R Q) => q p e Rm s m args below meth c cells slots Z cX hR
  have hC := fun (k2 : Nat) ls I L R Q (q : zSW l dC dI cA ad K n E A k2 0 ls [] I L R Q) => q
  exact sn_bast (nx := fun pc ls st I L R => zSW l dC dI cA ad K n E A k pc ls st I L R Q) (rt := Q) (cx := fun k2 ls I L R Q2 => zSW l dC dI cA ad K n E A k2 0 ls [] I L R Q2) hx hb hWd.1 hKn hd hX h
theorem w_zast {k pc : Nat} (hd : decode (zb k) pc = .ok (.bastore, 1)) : zSn k (pc, z_zast) := by
  intro l dC dI cA ad K n E A hKn ls st I L R Q h p e Rm s m args below meth c cells slots Z cX hR
  obtain ⟨hx, hb, hml, hown, hts, hWd, hfr, hlo, hce, hsl⟩ := id cX
  have hX := fun pc ls st I L R (q : zSW l dC dI cA ad K n E A k pc ls st I L R Q) => q p e Rm s m args below meth c cells slots Z cX hR
  have hC := fun (k2 : Nat) ls I L R Q (q : zSW l dC dI cA ad K n E A k2 0 ls [] I L R Q) => q
  exact sn_zast (nx := fun pc ls st I L R => zSW l dC dI cA ad K n E A k pc ls st I L R Q) (rt := Q) (cx := fun k2 ls I L R Q2 => zSW l dC dI cA ad K n E A k2 0 ls [] I L R Q2) hx hb hWd.1 hKn hd hX h
theorem w_last {k pc : Nat} (hd : decode (zb k) pc = .ok (.lastore, 1)) : zSn k (pc, z_last) := by
  intro l dC dI cA ad K n E A hKn ls st I L R Q h p e Rm s m args below meth c cells slots Z cX hR
  obtain ⟨hx, hb, hml, hown, hts, hWd, hfr, hlo, hce, hsl⟩ := id cX
  have hX := fun pc ls st I L R (q : zSW l dC dI cA ad K n E A k pc ls st I L R Q) => q p e Rm s m args below meth c cells slots Z cX hR
  have hC := fun (k2 : Nat) ls I L R Q (q : zSW l dC dI cA ad K n E A k2 0 ls [] I L R Q) => q
  exact sn_last (nx := fun pc ls st I L R => zSW l dC dI cA ad K n E A k pc ls st I L R Q) (rt := Q) (cx := fun k2 ls I L R Q2 => zSW l dC dI cA ad K n E A k2 0 ls [] I L R Q2) hx hb hWd.1 hKn hd hX h
theorem w_alen {k pc : Nat} (hd : decode (zb k) pc = .ok (.arraylength, 1)) : zSn k (pc, z_alen 20) := by
  intro l dC dI cA ad K n E A hKn ls st I L R Q h p e Rm s m args below meth c cells slots Z cX hR
  obtain ⟨hx, hb, hml, hown, hts, hWd, hfr, hlo, hce, hsl⟩ := id cX
  have hX := fun pc ls st I L R (q : zSW l dC dI cA ad K n E A k pc ls st I L R Q) => q p e Rm s m args below meth c cells slots Z cX hR
  have hC := fun (k2 : Nat) ls I L R Q (q : zSW l dC dI cA ad K n E A k2 0 ls [] I L R Q) => q
  exact sn_alen (nx := fun pc ls st I L R => zSW l dC dI cA ad K n E A k pc ls st I L R Q) (rt := Q) (cx := fun k2 ls I L R Q2 => zSW l dC dI cA ad K n E A k2 0 ls [] I L R Q2) hx hb hWd.1 hKn hd hX h
theorem w_xald {k pc : Nat} (hd : decode (zb k) pc = .ok (.iaload, 1)) : zSn k (pc, z_iald 30) := by
  intro l dC dI cA ad K n E A hKn ls st I L R Q h p e Rm s m args below meth c cells slots Z cX hR
  obtain ⟨hx, hb, hml, hown, hts, hWd, hfr, hlo, hce, hsl⟩ := id cX
  have hX := fun pc ls st I L R (q : zSW l dC dI cA ad K n E A k pc ls st I L R Q) => q p e Rm s m args below meth c cells slots Z cX hR
  have hC := fun (k2 : Nat) ls I L R Q (q : zSW l dC dI cA ad K n E A k2 0 ls [] I L R Q) => q
  exact sn_xald (nx := fun pc ls st I L R => zSW l dC dI cA ad K n E A k pc ls st I L R Q) (rt := Q) (cx := fun k2 ls I L R Q2 => zSW l dC dI cA ad K n E A k2 0 ls [] I L R Q2) hx hb hWd.2.2.1 hd hX h
theorem w_xlen {k pc : Nat} (hd : decode (zb k) pc = .ok (.arraylength, 1)) : zSn k (pc, z_alen 30) := by
  intro l dC dI cA ad K n E A hKn ls st I L R Q h p e Rm s m args below meth c cells slots Z cX hR
  obtain ⟨hx, hb, hml, hown, hts, hWd, hfr, hlo, hce, hsl⟩ := id cX
  have hX := fun pc ls st I L R (q : zSW l dC dI cA ad K n E A k pc ls st I L R Q) => q p e Rm s m args below meth c cells slots Z cX hR
  have hC := fun (k2 : Nat) ls I L R Q (q : zSW l dC dI cA ad K n E A k2 0 ls [] I L R Q) => q
  exact sn_xlen (nx := fun pc ls st I L R => zSW l dC dI cA ad K n E A k pc ls st I L R Q) (rt := Q) (cx := fun k2 ls I L R Q2 => zSW l dC dI cA ad K n E A k2 0 ls [] I L R Q2) hx hb hWd.2.2.1 hd hX h
theorem w_gs {k pc : Nat} {own : String} (ho : (zy k).cls = own) {idx : Nat} (hlk : zfm own idx "HummingSet" "MINUTES" "[I") (hd : decode (zb k) pc = .ok (.getstatic idx, 3)) : zSn k (pc, z_gs) := by
  intro l dC dI cA ad K n E A hKn ls st I L R Q h p e Rm s m args below meth c cells slots Z cX hR
  obtain ⟨hx, hb, hml, hown, hts, hWd, hfr, hlo, hce, hsl⟩ := id cX
  have hX := fun pc ls st I L R (q : zSW l dC dI cA ad K n E A k pc ls st I L R Q) => q p e Rm s m args below meth c cells slots Z cX hR
  have hC := fun (k2 : Nat) ls I L R Q (q : zSW l dC dI cA ad K n E A k2 0 ls [] I L R Q) => q
  exact sn_gs (nx := fun pc ls st I L R => zSW l dC dI cA ad K n E A k pc ls st I L R Q) (rt := Q) (cx := fun k2 ls I L R Q2 => zSW l dC dI cA ad K n E A k2 0 ls [] I L R Q2) hx hb hWd.2.2.2 (ho ▸ hown) (zfm_use hlk hts hWd.2.1) hd hX h
theorem w_mmax {k pc : Nat} {own : String} (ho : (zy k).cls = own) {idx : Nat} (hlk : Cond.methodLink own idx Lib.Math.max.name ∈ zWS) (hst : Cond.static Lib.Math.max.name ∈ zWS) (hin : Cond.initialized "java/lang/Math" ∈ zWS) (hcd : Cond.code Lib.Math.max.name Lib.Math.max.code 2 (some .int) ∈ zWS) (hrk : 1 ≤ zrk k) (hd : decode (zb k) pc = .ok (.invokestatic idx, 3)) : zSn k (pc, z_mmax) := by
  intro l dC dI cA ad K n E A hKn ls st I L R Q h p e Rm s m args below meth c cells slots Z cX hR
  obtain ⟨hx, hb, hml, hown, hts, hWd, hfr, hlo, hce, hsl⟩ := id cX
  have hX := fun pc ls st I L R (q : zSW l dC dI cA ad K n E A k pc ls st I L R Q) => q p e Rm s m args below meth c cells slots Z cX hR
  have hC := fun (k2 : Nat) ls I L R Q (q : zSW l dC dI cA ad K n E A k2 0 ls [] I L R Q) => q
  exact sn_mmax (nx := fun pc ls st I L R => zSW l dC dI cA ad K n E A k pc ls st I L R Q) (rt := Q) (cx := fun k2 ls I L R Q2 => zSW l dC dI cA ad K n E A k2 0 ls [] I L R Q2) hx hb hml (ho ▸ hown) (hts _ hlk) (hts _ hst) (hts _ hin) (hts _ hcd) (by omega) (by omega) hce hsl hd hX h
theorem w_mmin {k pc : Nat} {own : String} (ho : (zy k).cls = own) {idx : Nat} (hlk : Cond.methodLink own idx Lib.Math.min.name ∈ zWS) (hst : Cond.static Lib.Math.min.name ∈ zWS) (hin : Cond.initialized "java/lang/Math" ∈ zWS) (hcd : Cond.code Lib.Math.min.name Lib.Math.min.code 2 (some .int) ∈ zWS) (hrk : 1 ≤ zrk k) (hd : decode (zb k) pc = .ok (.invokestatic idx, 3)) : zSn k (pc, z_mmin) := by
  intro l dC dI cA ad K n E A hKn ls st I L R Q h p e Rm s m args below meth c cells slots Z cX hR
  obtain ⟨hx, hb, hml, hown, hts, hWd, hfr, hlo, hce, hsl⟩ := id cX
  have hX := fun pc ls st I L R (q : zSW l dC dI cA ad K n E A k pc ls st I L R Q) => q p e Rm s m args below meth c cells slots Z cX hR
  have hC := fun (k2 : Nat) ls I L R Q (q : zSW l dC dI cA ad K n E A k2 0 ls [] I L R Q) => q
  exact sn_mmin (nx := fun pc ls st I L R => zSW l dC dI cA ad K n E A k pc ls st I L R Q) (rt := Q) (cx := fun k2 ls I L R Q2 => zSW l dC dI cA ad K n E A k2 0 ls [] I L R Q2) hx hb hml (ho ▸ hown) (hts _ hlk) (hts _ hst) (hts _ hin) (hts _ hcd) (by omega) (by omega) hce hsl hd hX h
theorem w_mabs {k pc : Nat} {own : String} (ho : (zy k).cls = own) {idx : Nat} (hlk : Cond.methodLink own idx Lib.Math.abs.name ∈ zWS) (hst : Cond.static Lib.Math.abs.name ∈ zWS) (hin : Cond.initialized "java/lang/Math" ∈ zWS) (hcd : Cond.code Lib.Math.abs.name Lib.Math.abs.code 1 (some .int) ∈ zWS) (hrk : 1 ≤ zrk k) (hd : decode (zb k) pc = .ok (.invokestatic idx, 3)) : zSn k (pc, z_mabs) := by
  intro l dC dI cA ad K n E A hKn ls st I L R Q h p e Rm s m args below meth c cells slots Z cX hR
  obtain ⟨hx, hb, hml, hown, hts, hWd, hfr, hlo, hce, hsl⟩ := id cX
  have hX := fun pc ls st I L R (q : zSW l dC dI cA ad K n E A k pc ls st I L R Q) => q p e Rm s m args below meth c cells slots Z cX hR
  have hC := fun (k2 : Nat) ls I L R Q (q : zSW l dC dI cA ad K n E A k2 0 ls [] I L R Q) => q
  exact sn_mabs (nx := fun pc ls st I L R => zSW l dC dI cA ad K n E A k pc ls st I L R Q) (rt := Q) (cx := fun k2 ls I L R Q2 => zSW l dC dI cA ad K n E A k2 0 ls [] I L R Q2) hx hb hml (ho ▸ hown) (hts _ hlk) (hts _ hst) (hts _ hin) (hts _ hcd) (by omega) (by omega) hce hsl hd hX h
theorem w_mmaxl {k pc : Nat} {own : String} (ho : (zy k).cls = own) {idx : Nat} (hlk : Cond.methodLink own idx Lib.MathLoose.max_long.x ∈ zWS) (hst : Cond.static Lib.MathLoose.max_long.x ∈ zWS) (hin : Cond.initialized "java/lang/Math" ∈ zWS) (hcd : Cond.code Lib.MathLoose.max_long.x Lib.MathLoose.max_long.code 4 (some .long) ∈ zWS) (hrk : 1 ≤ zrk k) (hd : decode (zb k) pc = .ok (.invokestatic idx, 3)) : zSn k (pc, z_mmaxl) := by
  intro l dC dI cA ad K n E A hKn ls st I L R Q h p e Rm s m args below meth c cells slots Z cX hR
  obtain ⟨hx, hb, hml, hown, hts, hWd, hfr, hlo, hce, hsl⟩ := id cX
  have hX := fun pc ls st I L R (q : zSW l dC dI cA ad K n E A k pc ls st I L R Q) => q p e Rm s m args below meth c cells slots Z cX hR
  have hC := fun (k2 : Nat) ls I L R Q (q : zSW l dC dI cA ad K n E A k2 0 ls [] I L R Q) => q
  exact sn_mmaxl (nx := fun pc ls st I L R => zSW l dC dI cA ad K n E A k pc ls st I L R Q) (rt := Q) (cx := fun k2 ls I L R Q2 => zSW l dC dI cA ad K n E A k2 0 ls [] I L R Q2) hx hb hml (ho ▸ hown) (hts _ hlk) (hts _ hst) (hts _ hin) (hts _ hcd) (by omega) (by omega) hce hsl hd hX h
theorem w_ir {k pc : Nat} (hd : decode (zb k) pc = .ok (.ireturn, 1)) (hr : zrt k = some .int) : zSn k (pc, z_ir) := by
  intro l dC dI cA ad K n E A hKn ls st I L R Q h p e Rm s m args below meth c cells slots Z cX hR
  obtain ⟨hx, hb, hml, hown, hts, hWd, hfr, hlo, hce, hsl⟩ := id cX
  have hX := fun pc ls st I L R (q : zSW l dC dI cA ad K n E A k pc ls st I L R Q) => q p e Rm s m args below meth c cells slots Z cX hR
  have hC := fun (k2 : Nat) ls I L R Q (q : zSW l dC dI cA ad K n E A k2 0 ls [] I L R Q) => q
  exact sn_ir (nx := fun pc ls st I L R => zSW l dC dI cA ad K n E A k pc ls st I L R Q) (rt := Q) (cx := fun k2 ls I L R Q2 => zSW l dC dI cA ad K n E A k2 0 ls [] I L R Q2) hR hd hr h
theorem w_zr {k pc : Nat} (hd : decode (zb k) pc = .ok (.ireturn, 1)) (hr : zrt k = some .boolean) : zSn k (pc, z_zr) := by
  intro l dC dI cA ad K n E A hKn ls st I L R Q h p e Rm s m args below meth c cells slots Z cX hR
  obtain ⟨hx, hb, hml, hown, hts, hWd, hfr, hlo, hce, hsl⟩ := id cX
  have hX := fun pc ls st I L R (q : zSW l dC dI cA ad K n E A k pc ls st I L R Q) => q p e Rm s m args below meth c cells slots Z cX hR
  have hC := fun (k2 : Nat) ls I L R Q (q : zSW l dC dI cA ad K n E A k2 0 ls [] I L R Q) => q
  exact sn_zr (nx := fun pc ls st I L R => zSW l dC dI cA ad K n E A k pc ls st I L R Q) (rt := Q) (cx := fun k2 ls I L R Q2 => zSW l dC dI cA ad K n E A k2 0 ls [] I L R Q2) hR hd hr h
theorem w_lr {k pc : Nat} (hd : decode (zb k) pc = .ok (.lreturn, 1)) (hr : zrt k = some .long) : zSn k (pc, z_lr) := by
  intro l dC dI cA ad K n E A hKn ls st I L R Q h p e Rm s m args below meth c cells slots Z cX hR
  obtain ⟨hx, hb, hml, hown, hts, hWd, hfr, hlo, hce, hsl⟩ := id cX
  have hX := fun pc ls st I L R (q : zSW l dC dI cA ad K n E A k pc ls st I L R Q) => q p e Rm s m args below meth c cells slots Z cX hR
  have hC := fun (k2 : Nat) ls I L R Q (q : zSW l dC dI cA ad K n E A k2 0 ls [] I L R Q) => q
  exact sn_lr (nx := fun pc ls st I L R => zSW l dC dI cA ad K n E A k pc ls st I L R Q) (rt := Q) (cx := fun k2 ls I L R Q2 => zSW l dC dI cA ad K n E A k2 0 ls [] I L R Q2) hR hd hr h
theorem w_vr {k pc : Nat} (hd : decode (zb k) pc = .ok (.return_, 1)) (hr : zrt k = none) : zSn k (pc, z_vr) := by
  intro l dC dI cA ad K n E A hKn ls st I L R Q h p e Rm s m args below meth c cells slots Z cX hR
  obtain ⟨hx, hb, hml, hown, hts, hWd, hfr, hlo, hce, hsl⟩ := id cX
  have hX := fun pc ls st I L R (q : zSW l dC dI cA ad K n E A k pc ls st I L R Q) => q p e Rm s m args below meth c cells slots Z cX hR
  have hC := fun (k2 : Nat) ls I L R Q (q : zSW l dC dI cA ad K n E A k2 0 ls [] I L R Q) => q
  exact sn_vr (nx := fun pc ls st I L R => zSW l dC dI cA ad K n E A k pc ls st I L R Q) (rt := Q) (cx := fun k2 ls I L R Q2 => zSW l dC dI cA ad K n E A k2 0 ls [] I L R Q2) hR hd hr h
theorem w_cV {k pc : Nat} {own : String} (how : (zy k).cls = own) {k2 idx na ci ml : Nat} {C : String} {T : u_T} {F : Nat → FieldType} (ho : zOK ci C T F) (hCy : (zy k2).cls = C) (hml2 : zml k2 = ml) (hins : Cond.instanceMethod (zy k2) ∈ zWS) (hsel : Cond.selects C (zy k2) (zy k2) ∈ zWS) (hcal : zcal k2 na) (hrk : zrk k2 < zrk k) (hmx : zml k2 ≤ 21) (hlk : zmm own idx (zy k2)) (hd : decode (zb k) pc = .ok (.invokevirtual idx, 3)) : zSn k (pc, z_cV ci k2 ml na) := by
  intro l dC dI cA ad K n E A hKn ls st I L R Q h p e Rm s m args below meth c cells slots Z cX hR
  obtain ⟨hx, hb, hml, hown, hts, hWd, hfr, hlo, hce, hsl⟩ := id cX
  have hX := fun pc ls st I L R (q : zSW l dC dI cA ad K n E A k pc ls st I L R Q) => q p e Rm s m args below meth c cells slots Z cX hR
  have hC := fun (k2 : Nat) ls I L R Q (q : zSW l dC dI cA ad K n E A k2 0 ls [] I L R Q) => q
  exact sn_cV (nx := fun pc ls st I L R => zSW l dC dI cA ad K n E A k pc ls st I L R Q) (rt := Q) (cx := fun k2 ls I L R Q2 => zSW l dC dI cA ad K n E A k2 0 ls [] I L R Q2) ho hCy hml2 hins hsel cX hKn hcal hrk hmx (zmm_use (how ▸ hlk) hts hWd.2.1) (hC _) hd hX h
theorem w_cS {k pc : Nat} {own : String} (how : (zy k).cls = own) {k2 idx na ml : Nat} (hml2 : zml k2 = ml) (hsta : Cond.static (zy k2) ∈ zWS) (hcal : zcal k2 na) (hrk : zrk k2 < zrk k) (hmx : zml k2 ≤ 21) (hlk : zmm own idx (zy k2)) (hd : decode (zb k) pc = .ok (.invokestatic idx, 3)) : zSn k (pc, z_cS k2 ml na) := by
  intro l dC dI cA ad K n E A hKn ls st I L R Q h p e Rm s m args below meth c cells slots Z cX hR
  obtain ⟨hx, hb, hml, hown, hts, hWd, hfr, hlo, hce, hsl⟩ := id cX
  have hX := fun pc ls st I L R (q : zSW l dC dI cA ad K n E A k pc ls st I L R Q) => q p e Rm s m args below meth c cells slots Z cX hR
  have hC := fun (k2 : Nat) ls I L R Q (q : zSW l dC dI cA ad K n E A k2 0 ls [] I L R Q) => q
  exact sn_cS (nx := fun pc ls st I L R => zSW l dC dI cA ad K n E A k pc ls st I L R Q) (rt := Q) (cx := fun k2 ls I L R Q2 => zSW l dC dI cA ad K n E A k2 0 ls [] I L R Q2) hml2 hsta cX hKn hcal hrk hmx (zmm_use (how ▸ hlk) hts hWd.2.1) (hC _) hd hX h
end
section
/-! ===== link words ===== -/
theorem zw0 : (zy 0).cls = "HummingSet$Answers" := rfl
theorem zw1 : (zy 1).cls = "HummingSet$Answers" := rfl
theorem zw2 : (zy 2).cls = "HummingSet$Answers" := rfl
theorem zw3 : (zy 3).cls = "HummingSet$Bench" := rfl
theorem zw4 : (zy 4).cls = "HummingSet$Bench" := rfl
theorem zw5 : (zy 5).cls = "HummingSet$Bench" := rfl
theorem zw6 : (zy 6).cls = "HummingSet$Bench" := rfl
theorem zw7 : (zy 7).cls = "HummingSet$Bench" := rfl
theorem zw8 : (zy 8).cls = "HummingSet$Bench" := rfl
theorem zw9 : (zy 9).cls = "HummingSet$Bench" := rfl
theorem zw10 : (zy 10).cls = "HummingSet$Bench" := rfl
theorem zw11 : (zy 11).cls = "HummingSet$Cases" := rfl
theorem zw12 : (zy 12).cls = "HummingSet$Cases" := rfl
theorem zw13 : (zy 13).cls = "HummingSet$Cases" := rfl
theorem zw14 : (zy 14).cls = "HummingSet$Cases" := rfl
theorem zw15 : (zy 15).cls = "HummingSet$Cases" := rfl
theorem zw16 : (zy 16).cls = "HummingSet$Cases" := rfl
theorem zw17 : (zy 17).cls = "HummingSet$Part" := rfl
theorem zw18 : (zy 18).cls = "HummingSet$Part" := rfl
theorem zw19 : (zy 19).cls = "HummingSet$Part" := rfl
theorem zw20 : (zy 20).cls = "HummingSet$Part" := rfl
theorem zw21 : (zy 21).cls = "HummingSet$Plan" := rfl
theorem zw22 : (zy 22).cls = "HummingSet$Plan" := rfl
theorem zw23 : (zy 23).cls = "HummingSet$Plan" := rfl
theorem zw24 : (zy 24).cls = "HummingSet$Plan" := rfl
theorem zw25 : (zy 25).cls = "HummingSet$Plan" := rfl
theorem zw26 : (zy 26).cls = "HummingSet$Plan" := rfl
theorem zw27 : (zy 27).cls = "HummingSet$Reader" := rfl
theorem zw28 : (zy 28).cls = "HummingSet$Reader" := rfl
theorem zw29 : (zy 29).cls = "HummingSet$Reader" := rfl
theorem zw30 : (zy 30).cls = "HummingSet$Reader" := rfl
theorem zw31 : (zy 31).cls = "HummingSet$Reader" := rfl
theorem zw32 : (zy 32).cls = "HummingSet$Reader" := rfl
theorem zw33 : (zy 33).cls = "HummingSet$Search" := rfl
theorem zw34 : (zy 34).cls = "HummingSet$Search" := rfl
theorem zw35 : (zy 35).cls = "HummingSet$Search" := rfl
theorem zw36 : (zy 36).cls = "HummingSet$Search" := rfl
theorem zw37 : (zy 37).cls = "HummingSet$Search" := rfl
theorem zw38 : (zy 38).cls = "HummingSet$Stage" := rfl
theorem zw39 : (zy 39).cls = "HummingSet$Text" := rfl
theorem zw40 : (zy 40).cls = "HummingSet$Text" := rfl
theorem zw41 : (zy 41).cls = "HummingSet$Text" := rfl
theorem zw42 : (zy 42).cls = "HummingSet$Text" := rfl
theorem zw43 : (zy 43).cls = "HummingSet$Way" := rfl
theorem zw44 : (zy 44).cls = "HummingSet$Wireless" := rfl
theorem zw45 : (zy 45).cls = "HummingSet$Wireless" := rfl
theorem zw46 : (zy 46).cls = "HummingSet$Wireless" := rfl
theorem zw47 : (zy 47).cls = "HummingSet$Wireless" := rfl
theorem zw48 : (zy 48).cls = "HummingSet$Wireless" := rfl
theorem zw49 : (zy 49).cls = "HummingSet$Wireless" := rfl
theorem zw50 : (zy 50).cls = "HummingSet$Wireless" := rfl
theorem zw51 : (zy 51).cls = "HummingSet$Wireless" := rfl
theorem zw52 : (zy 52).cls = "HummingSet$Wireless" := rfl
theorem zw53 : (zy 53).cls = "HummingSet$Wireless" := rfl
theorem zw54 : (zy 54).cls = "HummingSet$Wireless" := rfl
theorem zw55 : (zy 55).cls = "HummingSet$Wireless" := rfl
theorem zw56 : (zy 56).cls = "HummingSet$Wireless" := rfl
theorem zw57 : (zy 57).cls = "HummingSet$Wireless" := rfl
theorem zw58 : (zy 58).cls = "HummingSet$Wireless" := rfl
theorem zw59 : (zy 59).cls = "HummingSet$Wireless" := rfl
theorem zw60 : (zy 60).cls = "HummingSet$Wireless" := rfl
theorem zw61 : (zy 61).cls = "HummingSet$Wireless" := rfl
theorem zw62 : (zy 62).cls = "HummingSet$Wireless" := rfl
theorem zw63 : (zy 63).cls = "HummingSet$Wireless" := rfl
theorem zw64 : (zy 64).cls = "HummingSet$Wireless" := rfl
theorem zw65 : (zy 65).cls = "HummingSet$Wireless" := rfl
theorem zw66 : (zy 66).cls = "HummingSet$Wireless" := rfl
theorem zw67 : (zy 67).cls = "HummingSet$Wireless" := rfl
theorem zw68 : (zy 68).cls = "HummingSet$Wireless" := rfl
theorem zw69 : (zy 69).cls = "HummingSet" := rfl
theorem zw70 : (zy 70).cls = "HummingSet" := rfl
theorem zw71 : (zy 71).cls = "HummingSet" := rfl
theorem zw72 : (zy 72).cls = "HummingSet" := rfl
theorem zw73 : (zy 73).cls = "HummingSet" := rfl
theorem zw74 : (zy 74).cls = "HummingSet" := rfl
theorem zw75 : (zy 75).cls = "HummingSet" := rfl
theorem zw76 : (zy 76).cls = "HummingSet" := rfl
theorem zw77 : (zy 77).cls = "HummingSet" := rfl
theorem zw78 : (zy 78).cls = "HummingSet" := rfl
theorem zw79 : (zy 79).cls = "HummingSet" := rfl
theorem zw80 : (zy 80).cls = "HummingSet" := rfl
theorem zw81 : (zy 81).cls = "HummingSet" := rfl
theorem zw82 : (zy 82).cls = "HummingSet" := rfl
theorem zw83 : (zy 83).cls = "HummingSet" := rfl
theorem zw84 : (zy 84).cls = "HummingSet" := rfl
theorem zw85 : (zy 85).cls = "HummingSet" := rfl
theorem zw86 : (zy 86).cls = "HummingSet" := rfl
theorem zw87 : (zy 87).cls = "HummingSet" := rfl
theorem zw88 : (zy 88).cls = "HummingSet" := rfl
theorem zw89 : (zy 89).cls = "HummingSet" := rfl
theorem zw90 : (zy 90).cls = "HummingSet" := rfl
theorem zw91 : (zy 91).cls = "HummingSet" := rfl
theorem zw92 : (zy 92).cls = "HummingSet" := rfl
theorem zw93 : (zy 93).cls = "HummingSet" := rfl
theorem zw94 : (zy 94).cls = "HummingSet" := rfl
theorem zw95 : (zy 95).cls = "HummingSet" := rfl
theorem zw96 : (zy 96).cls = "HummingSet" := rfl
theorem zw97 : (zy 97).cls = "HummingSet" := rfl
theorem zw98 : (zy 98).cls = "HummingSet" := rfl
theorem zw99 : (zy 99).cls = "HummingSet" := rfl
theorem zw100 : (zy 100).cls = "HummingSet" := rfl
theorem zw101 : (zy 101).cls = "HummingSet" := rfl
theorem zw102 : (zy 102).cls = "HummingSet" := rfl
theorem zw103 : (zy 103).cls = "HummingSet" := rfl
theorem zw104 : (zy 104).cls = "HummingSetModel" := rfl
theorem zw105 : (zy 105).cls = "HummingSetModel" := rfl
theorem zw106 : (zy 106).cls = "HummingSetModel" := rfl
theorem zw107 : (zy 107).cls = "HummingSetModel" := rfl
theorem zw108 : (zy 108).cls = "HummingSetModel" := rfl
theorem zw109 : (zy 109).cls = "HummingSetModel" := rfl
theorem zw110 : (zy 110).cls = "HummingSetModel" := rfl
theorem zw111 : (zy 111).cls = "HummingSetModel" := rfl
theorem zw112 : (zy 112).cls = "HummingSetModel" := rfl
theorem zw113 : (zy 113).cls = "HummingSetModel" := rfl
theorem zw114 : (zy 114).cls = "HummingSetModel" := rfl
theorem zw115 : (zy 115).cls = "HummingSetModel" := rfl
theorem zw116 : (zy 116).cls = "HummingSetModel" := rfl
theorem zw117 : (zy 117).cls = "HummingSetModel" := rfl
theorem zw118 : (zy 118).cls = "HummingSetModel" := rfl
theorem zw119 : (zy 119).cls = "HummingSetModel" := rfl
theorem zw120 : (zy 120).cls = "HummingSetModel" := rfl
theorem zw121 : (zy 121).cls = "HummingSetModel" := rfl
theorem zw122 : (zy 122).cls = "HummingSetModel" := rfl
theorem zw123 : (zy 123).cls = "HummingSetModel" := rfl
theorem zw124 : (zy 124).cls = "HummingSetModel" := rfl
theorem zw125 : (zy 125).cls = "HummingSetModel" := rfl
theorem zw126 : (zy 126).cls = "HummingSetModel" := rfl
theorem zw127 : (zy 127).cls = "HummingSetModel" := rfl
theorem zw128 : (zy 128).cls = "HummingSetModel" := rfl
theorem zw129 : (zy 129).cls = "HummingSetModel" := rfl
theorem zw130 : (zy 130).cls = "HummingSetModel" := rfl
theorem zw131 : (zy 131).cls = "HummingSetModel" := rfl
theorem zw132 : (zy 132).cls = "HummingSetModel" := rfl
theorem zw133 : (zy 133).cls = "HummingSetModel" := rfl
theorem zw134 : (zy 134).cls = "HummingSetModel" := rfl
theorem zw135 : (zy 135).cls = "HummingSetModel" := rfl
theorem zw136 : (zy 136).cls = "HummingSetModel" := rfl
theorem zw137 : (zy 137).cls = "HummingSetModel" := rfl
theorem zw138 : (zy 138).cls = "HummingSetModel" := rfl
theorem zw139 : (zy 139).cls = "HummingSetModel" := rfl
theorem zw140 : (zy 140).cls = "HummingSetModel" := rfl
theorem zw141 : (zy 141).cls = "HummingSetModel" := rfl
theorem zw142 : (zy 142).cls = "HummingSetModel" := rfl
theorem zw143 : (zy 143).cls = "HummingSetModel" := rfl
theorem zw144 : (zy 144).cls = "HummingSetModel" := rfl
theorem zw145 : (zy 145).cls = "HummingSetModel" := rfl
theorem zw146 : (zy 146).cls = "HummingSetModel" := rfl
theorem zw147 : (zy 147).cls = "HummingSetModel" := rfl
theorem zw148 : (zy 148).cls = "HummingSetModel" := rfl
theorem zw149 : (zy 149).cls = "HummingSetModel" := rfl
theorem zw150 : (zy 150).cls = "HummingSetModel" := rfl
theorem zw151 : (zy 151).cls = "HummingSetModel" := rfl
theorem zw152 : (zy 152).cls = "HummingSetModel" := rfl
theorem zw153 : (zy 153).cls = "HummingSetModel" := rfl
theorem zw154 : (zy 154).cls = "HummingSetModel" := rfl
theorem zw155 : (zy 155).cls = "HummingSetModel" := rfl
theorem zw156 : (zy 156).cls = "HummingSetModel" := rfl
theorem zw157 : (zy 157).cls = "HummingSetModel" := rfl
theorem zw158 : (zy 158).cls = "HummingSetModel" := rfl
theorem zw159 : (zy 159).cls = "HummingSetModel" := rfl
theorem zw160 : (zy 160).cls = "HummingSetModel" := rfl
theorem zw161 : (zy 161).cls = "HummingSetModel" := rfl
theorem zw162 : (zy 162).cls = "HummingSetModel" := rfl
theorem zw163 : (zy 163).cls = "HummingSetModel" := rfl
theorem zw164 : (zy 164).cls = "HummingSetModel" := rfl
theorem zw165 : (zy 165).cls = "HummingSetModel" := rfl
theorem zw166 : (zy 166).cls = "HummingSetModel" := rfl
theorem zw167 : (zy 167).cls = "HummingSetModel" := rfl
theorem zw168 : (zy 168).cls = "HummingSetModel" := rfl
theorem zw169 : (zy 169).cls = "HummingSetModel" := rfl
theorem zw170 : (zy 170).cls = "HummingSetModel" := rfl
theorem zw171 : (zy 171).cls = "HummingSetModel" := rfl
theorem zw172 : (zy 172).cls = "HummingSetModel" := rfl
theorem zw173 : (zy 173).cls = "HummingSetModel" := rfl
theorem zw174 : (zy 174).cls = "HummingSetModel" := rfl
theorem zw175 : (zy 175).cls = "java/lang/Integer" := rfl
theorem zw176 : (zy 176).cls = "HummingSetLaw" := rfl
set_option maxRecDepth 100000 in
theorem zfk_HummingSet_Answers_24 : zfm "HummingSet$Answers" 24 "HummingSet$Answers" "count" "I" := Or.inl (zmW 85 (by decide +kernel) rfl)
set_option maxRecDepth 100000 in
theorem zfk_HummingSet_Answers_9 : zfm "HummingSet$Answers" 9 "HummingSet$Answers" "kinds" "[I" := Or.inl (zmW 77 (by decide +kernel) rfl)
set_option maxRecDepth 100000 in
theorem zfk_HummingSet_Answers_15 : zfm "HummingSet$Answers" 15 "HummingSet$Answers" "ofs" "[I" := Or.inl (zmW 79 (by decide +kernel) rfl)
set_option maxRecDepth 100000 in
theorem zfk_HummingSet_Answers_18 : zfm "HummingSet$Answers" 18 "HummingSet$Answers" "minutes" "[I" := Or.inl (zmW 81 (by decide +kernel) rfl)
set_option maxRecDepth 100000 in
theorem zfk_HummingSet_Answers_21 : zfm "HummingSet$Answers" 21 "HummingSet$Answers" "replies" "[I" := Or.inl (zmW 83 (by decide +kernel) rfl)
set_option maxRecDepth 100000 in
theorem zca1 : zcal 1 4 := ⟨by decide +kernel, zcw1, by decide +kernel, by decide +kernel, zmW (w := Cond.initialized "HummingSet$Answers") 5 (by decide +kernel) rfl⟩
set_option maxRecDepth 100000 in
theorem zin1 : Cond.instanceMethod (zy 1) ∈ zWS := zmW (w := Cond.instanceMethod zy1) 610 (by decide +kernel) rfl
set_option maxRecDepth 100000 in
theorem zse1 : Cond.selects zC0 (zy 1) (zy 1) ∈ zWS := zmS (w := Cond.selects zC0 zy1 zy1) 40 (by decide +kernel) rfl
set_option maxRecDepth 100000 in
theorem zmk_HummingSet_Answers_28 : zmm "HummingSet$Answers" 28 zy1 := Or.inl (zmW 752 (by decide +kernel) rfl)
set_option maxRecDepth 100000 in
theorem zca5 : zcal 5 3 := ⟨by decide +kernel, zcw5, by decide +kernel, by decide +kernel, zmW (w := Cond.initialized "HummingSet$Bench") 4 (by decide +kernel) rfl⟩
set_option maxRecDepth 100000 in
theorem zin5 : Cond.instanceMethod (zy 5) ∈ zWS := zmW (w := Cond.instanceMethod zy5) 356 (by decide +kernel) rfl
set_option maxRecDepth 100000 in
theorem zse5 : Cond.selects zC1 (zy 5) (zy 5) ∈ zWS := zmS (w := Cond.selects zC1 zy5 zy5) 9 (by decide +kernel) rfl
set_option maxRecDepth 100000 in
theorem zmk_HummingSet_Bench_20 : zmm "HummingSet$Bench" 20 zy5 := Or.inl (zmW 354 (by decide +kernel) rfl)
set_option maxRecDepth 100000 in
theorem zca46 : zcal 46 1 := ⟨by decide +kernel, zcw46, by decide +kernel, by decide +kernel, zmW (w := Cond.initialized "HummingSet$Wireless") 9 (by decide +kernel) rfl⟩
set_option maxRecDepth 100000 in
theorem zin46 : Cond.instanceMethod (zy 46) ∈ zWS := zmW (w := Cond.instanceMethod zy46) 322 (by decide +kernel) rfl
set_option maxRecDepth 100000 in
theorem zse46 : Cond.selects zC10 (zy 46) (zy 46) ∈ zWS := zmS (w := Cond.selects zC10 zy46 zy46) 3 (by decide +kernel) rfl
set_option maxRecDepth 100000 in
theorem zmk_HummingSet_Bench_24 : zmm "HummingSet$Bench" 24 zy46 := Or.inr ⟨"HummingSet", zmN 358 (by decide +kernel) rfl⟩
set_option maxRecDepth 100000 in
theorem zfk_HummingSet_Bench_11 : zfm "HummingSet$Bench" 11 "HummingSet$Bench" "ins" "[[I" := Or.inl (zmW 62 (by decide +kernel) rfl)
set_option maxRecDepth 100000 in
theorem zfk_HummingSet_Bench_30 : zfm "HummingSet$Bench" 30 "HummingSet$Wireless" "stageCount" "I" := Or.inr ⟨"HummingSet", zmN 279 (by decide +kernel) rfl⟩
set_option maxRecDepth 100000 in
theorem zfk_HummingSet_Bench_34 : zfm "HummingSet$Bench" 34 "HummingSet$Wireless" "stages" "[LHummingSet$Stage;" := Or.inr ⟨"HummingSet", zmN 269 (by decide +kernel) rfl⟩
set_option maxRecDepth 100000 in
theorem zfk_HummingSet_Bench_38 : zfm "HummingSet$Bench" 38 "HummingSet$Stage" "gain" "I" := Or.inr ⟨"HummingSet", zmN 192 (by decide +kernel) rfl⟩
set_option maxRecDepth 100000 in
theorem zfk_HummingSet_Bench_16 : zfm "HummingSet$Bench" 16 "HummingSet$Bench" "ends" "[I" := Or.inl (zmW 64 (by decide +kernel) rfl)
set_option maxRecDepth 100000 in
theorem zfk_HummingSet_Bench_43 : zfm "HummingSet$Bench" 43 "HummingSet$Stage" "mains" "[I" := Or.inr ⟨"HummingSet", zmN 190 (by decide +kernel) rfl⟩
set_option maxRecDepth 100000 in
theorem zfk_HummingSet_Bench_46 : zfm "HummingSet$Bench" 46 "HummingSet$Wireless" "partCount" "I" := Or.inr ⟨"HummingSet", zmN 282 (by decide +kernel) rfl⟩
set_option maxRecDepth 100000 in
theorem zfk_HummingSet_Bench_49 : zfm "HummingSet$Bench" 49 "HummingSet$Wireless" "parts" "[LHummingSet$Part;" := Or.inr ⟨"HummingSet", zmN 271 (by decide +kernel) rfl⟩
set_option maxRecDepth 100000 in
theorem zfk_HummingSet_Bench_53 : zfm "HummingSet$Bench" 53 "HummingSet$Part" "warm" "I" := Or.inr ⟨"HummingSet", zmN 220 (by decide +kernel) rfl⟩
set_option maxRecDepth 100000 in
theorem zfk_HummingSet_Bench_58 : zfm "HummingSet$Bench" 58 "HummingSet$Part" "stage" "I" := Or.inr ⟨"HummingSet", zmN 210 (by decide +kernel) rfl⟩
set_option maxRecDepth 100000 in
theorem zfk_HummingSet_Bench_61 : zfm "HummingSet$Bench" 61 "HummingSet$Part" "lets" "[I" := Or.inr ⟨"HummingSet", zmN 208 (by decide +kernel) rfl⟩
set_option maxRecDepth 100000 in
theorem zmaS_mabs : Cond.static Lib.Math.abs.name ∈ zWS := zmW 364 (by decide +kernel) rfl
set_option maxRecDepth 100000 in
theorem zmaC_mabs : Cond.code Lib.Math.abs.name Lib.Math.abs.code 1 (some .int) ∈ zWS := zmW 365 (by decide +kernel) rfl
set_option maxRecDepth 100000 in
theorem zmaI : Cond.initialized "java/lang/Math" ∈ zWS := zmW 14 (by decide +kernel) rfl
set_option maxRecDepth 100000 in
theorem zmaL_mabs_HummingSet_Bench_64 : Cond.methodLink "HummingSet$Bench" 64 Lib.Math.abs.name ∈ zWS := zmW 363 (by decide +kernel) rfl
set_option maxRecDepth 100000 in
theorem zfk_HummingSet_Bench_70 : zfm "HummingSet$Bench" 70 "HummingSet$Wireless" "ears" "[I" := Or.inr ⟨"HummingSet", zmN 276 (by decide +kernel) rfl⟩
set_option maxRecDepth 100000 in
theorem zca8 : zcal 8 1 := ⟨by decide +kernel, zcw8, by decide +kernel, by decide +kernel, zmW (w := Cond.initialized "HummingSet$Bench") 4 (by decide +kernel) rfl⟩
set_option maxRecDepth 100000 in
theorem zst8 : Cond.static (zy 8) ∈ zWS := zmW (w := Cond.static zy8) 398 (by decide +kernel) rfl
set_option maxRecDepth 100000 in
theorem zmk_HummingSet_Bench_73 : zmm "HummingSet$Bench" 73 zy8 := Or.inl (zmW 397 (by decide +kernel) rfl)
set_option maxRecDepth 100000 in
theorem zca10 : zcal 10 3 := ⟨by decide +kernel, zcw10, by decide +kernel, by decide +kernel, zmW (w := Cond.initialized "HummingSet$Bench") 4 (by decide +kernel) rfl⟩
set_option maxRecDepth 100000 in
theorem zst10 : Cond.static (zy 10) ∈ zWS := zmW (w := Cond.static zy10) 393 (by decide +kernel) rfl
set_option maxRecDepth 100000 in
theorem zmk_HummingSet_Bench_77 : zmm "HummingSet$Bench" 77 zy10 := Or.inl (zmW 392 (by decide +kernel) rfl)
set_option maxRecDepth 100000 in
theorem zca4 : zcal 4 5 := ⟨by decide +kernel, zcw4, by decide +kernel, by decide +kernel, zmW (w := Cond.initialized "HummingSet$Bench") 4 (by decide +kernel) rfl⟩
set_option maxRecDepth 100000 in
theorem zin4 : Cond.instanceMethod (zy 4) ∈ zWS := zmW (w := Cond.instanceMethod zy4) 352 (by decide +kernel) rfl
set_option maxRecDepth 100000 in
theorem zse4 : Cond.selects zC1 (zy 4) (zy 4) ∈ zWS := zmS (w := Cond.selects zC1 zy4 zy4) 8 (by decide +kernel) rfl
set_option maxRecDepth 100000 in
theorem zmk_HummingSet_Bench_81 : zmm "HummingSet$Bench" 81 zy4 := Or.inl (zmW 396 (by decide +kernel) rfl)
set_option maxRecDepth 100000 in
theorem zmaS_mmin : Cond.static Lib.Math.min.name ∈ zWS := zmW 401 (by decide +kernel) rfl
set_option maxRecDepth 100000 in
theorem zmaC_mmin : Cond.code Lib.Math.min.name Lib.Math.min.code 2 (some .int) ∈ zWS := zmW 402 (by decide +kernel) rfl
set_option maxRecDepth 100000 in
theorem zmaL_mmin_HummingSet_Bench_85 : Cond.methodLink "HummingSet$Bench" 85 Lib.Math.min.name ∈ zWS := zmW 400 (by decide +kernel) rfl
set_option maxRecDepth 100000 in
theorem zca6 : zcal 6 1 := ⟨by decide +kernel, zcw6, by decide +kernel, by decide +kernel, zmW (w := Cond.initialized "HummingSet$Bench") 4 (by decide +kernel) rfl⟩
set_option maxRecDepth 100000 in
theorem zin6 : Cond.instanceMethod (zy 6) ∈ zWS := zmW (w := Cond.instanceMethod zy6) 361 (by decide +kernel) rfl
set_option maxRecDepth 100000 in
theorem zse6 : Cond.selects zC1 (zy 6) (zy 6) ∈ zWS := zmS (w := Cond.selects zC1 zy6 zy6) 10 (by decide +kernel) rfl
set_option maxRecDepth 100000 in
theorem zmk_HummingSet_Bench_89 : zmm "HummingSet$Bench" 89 zy6 := Or.inl (zmW 403 (by decide +kernel) rfl)
set_option maxRecDepth 100000 in
theorem zca47 : zcal 47 1 := ⟨by decide +kernel, zcw47, by decide +kernel, by decide +kernel, zmW (w := Cond.initialized "HummingSet$Wireless") 9 (by decide +kernel) rfl⟩
set_option maxRecDepth 100000 in
theorem zin47 : Cond.instanceMethod (zy 47) ∈ zWS := zmW (w := Cond.instanceMethod zy47) 330 (by decide +kernel) rfl
set_option maxRecDepth 100000 in
theorem zse47 : Cond.selects zC10 (zy 47) (zy 47) ∈ zWS := zmS (w := Cond.selects zC10 zy47 zy47) 5 (by decide +kernel) rfl
set_option maxRecDepth 100000 in
theorem zmk_HummingSet_Bench_93 : zmm "HummingSet$Bench" 93 zy47 := Or.inr ⟨"HummingSet", zmN 395 (by decide +kernel) rfl⟩
set_option maxRecDepth 100000 in
theorem zfk_HummingSet_Bench_96 : zfm "HummingSet$Bench" 96 "HummingSet$Part" "kind" "I" := Or.inr ⟨"HummingSet", zmN 214 (by decide +kernel) rfl⟩
set_option maxRecDepth 100000 in
theorem zfk_HummingSet_Cases_19 : zfm "HummingSet$Cases" 19 "HummingSet$Cases" "count" "I" := Or.inl (zmW 111 (by decide +kernel) rfl)
set_option maxRecDepth 100000 in
theorem zfk_HummingSet_Cases_23 : zfm "HummingSet$Cases" 23 "HummingSet$Cases" "total" "J" := Or.inl (zmW 115 (by decide +kernel) rfl)
set_option maxRecDepth 100000 in
theorem zca48 : zcal 48 1 := ⟨by decide +kernel, zcw48, by decide +kernel, by decide +kernel, zmW (w := Cond.initialized "HummingSet$Wireless") 9 (by decide +kernel) rfl⟩
set_option maxRecDepth 100000 in
theorem zin48 : Cond.instanceMethod (zy 48) ∈ zWS := zmW (w := Cond.instanceMethod zy48) 342 (by decide +kernel) rfl
set_option maxRecDepth 100000 in
theorem zse48 : Cond.selects zC10 (zy 48) (zy 48) ∈ zWS := zmS (w := Cond.selects zC10 zy48 zy48) 7 (by decide +kernel) rfl
set_option maxRecDepth 100000 in
theorem zmk_HummingSet_Cases_27 : zmm "HummingSet$Cases" 27 zy48 := Or.inr ⟨"HummingSet", zmN 374 (by decide +kernel) rfl⟩
set_option maxRecDepth 100000 in
theorem zca175 : zcal 175 1 := ⟨by decide +kernel, zcw175, by decide +kernel, by decide +kernel, zmW (w := Cond.initialized "java/lang/Integer") 13 (by decide +kernel) rfl⟩
set_option maxRecDepth 100000 in
theorem zst175 : Cond.static (zy 175) ∈ zWS := zmW (w := Cond.static zy175) 345 (by decide +kernel) rfl
set_option maxRecDepth 100000 in
theorem zmk_HummingSet_Cases_33 : zmm "HummingSet$Cases" 33 zy175 := Or.inl (zmW 375 (by decide +kernel) rfl)
set_option maxRecDepth 100000 in
theorem zca64 : zcal 64 1 := ⟨by decide +kernel, zcw64, by decide +kernel, by decide +kernel, zmW (w := Cond.initialized "HummingSet$Wireless") 9 (by decide +kernel) rfl⟩
set_option maxRecDepth 100000 in
theorem zin64 : Cond.instanceMethod (zy 64) ∈ zWS := zmW (w := Cond.instanceMethod zy64) 378 (by decide +kernel) rfl
set_option maxRecDepth 100000 in
theorem zse64 : Cond.selects zC10 (zy 64) (zy 64) ∈ zWS := zmS (w := Cond.selects zC10 zy64 zy64) 13 (by decide +kernel) rfl
set_option maxRecDepth 100000 in
theorem zmk_HummingSet_Cases_39 : zmm "HummingSet$Cases" 39 zy64 := Or.inr ⟨"HummingSet", zmN 376 (by decide +kernel) rfl⟩
set_option maxRecDepth 100000 in
theorem zca13 : zcal 13 2 := ⟨by decide +kernel, zcw13, by decide +kernel, by decide +kernel, zmW (w := Cond.initialized "HummingSet$Cases") 6 (by decide +kernel) rfl⟩
set_option maxRecDepth 100000 in
theorem zin13 : Cond.instanceMethod (zy 13) ∈ zWS := zmW (w := Cond.instanceMethod zy13) 382 (by decide +kernel) rfl
set_option maxRecDepth 100000 in
theorem zse13 : Cond.selects zC2 (zy 13) (zy 13) ∈ zWS := zmS (w := Cond.selects zC2 zy13 zy13) 14 (by decide +kernel) rfl
set_option maxRecDepth 100000 in
theorem zmk_HummingSet_Cases_43 : zmm "HummingSet$Cases" 43 zy13 := Or.inl (zmW 380 (by decide +kernel) rfl)
set_option maxRecDepth 100000 in
theorem zfk_HummingSet_Cases_9 : zfm "HummingSet$Cases" 9 "HummingSet$Cases" "states" "[I" := Or.inl (zmW 105 (by decide +kernel) rfl)
set_option maxRecDepth 100000 in
theorem zfk_HummingSet_Cases_15 : zfm "HummingSet$Cases" 15 "HummingSet$Cases" "weights" "[J" := Or.inl (zmW 108 (by decide +kernel) rfl)
set_option maxRecDepth 100000 in
theorem zfk_HummingSet_Cases_47 : zfm "HummingSet$Cases" 47 "HummingSet$Answers" "count" "I" := Or.inr ⟨"HummingSet", zmN 86 (by decide +kernel) rfl⟩
set_option maxRecDepth 100000 in
theorem zfk_HummingSet_Cases_50 : zfm "HummingSet$Cases" 50 "HummingSet$Answers" "kinds" "[I" := Or.inr ⟨"HummingSet", zmN 78 (by decide +kernel) rfl⟩
set_option maxRecDepth 100000 in
theorem zfk_HummingSet_Cases_53 : zfm "HummingSet$Cases" 53 "HummingSet$Answers" "ofs" "[I" := Or.inr ⟨"HummingSet", zmN 80 (by decide +kernel) rfl⟩
set_option maxRecDepth 100000 in
theorem zfk_HummingSet_Cases_56 : zfm "HummingSet$Cases" 56 "HummingSet$Answers" "minutes" "[I" := Or.inr ⟨"HummingSet", zmN 82 (by decide +kernel) rfl⟩
set_option maxRecDepth 100000 in
theorem zca9 : zcal 9 5 := ⟨by decide +kernel, zcw9, by decide +kernel, by decide +kernel, zmW (w := Cond.initialized "HummingSet$Bench") 4 (by decide +kernel) rfl⟩
set_option maxRecDepth 100000 in
theorem zin9 : Cond.instanceMethod (zy 9) ∈ zWS := zmW (w := Cond.instanceMethod zy9) 390 (by decide +kernel) rfl
set_option maxRecDepth 100000 in
theorem zse9 : Cond.selects zC1 (zy 9) (zy 9) ∈ zWS := zmS (w := Cond.selects zC1 zy9 zy9) 16 (by decide +kernel) rfl
set_option maxRecDepth 100000 in
theorem zmk_HummingSet_Cases_59 : zmm "HummingSet$Cases" 59 zy9 := Or.inr ⟨"HummingSet", zmN 388 (by decide +kernel) rfl⟩
set_option maxRecDepth 100000 in
theorem zfk_HummingSet_Cases_65 : zfm "HummingSet$Cases" 65 "HummingSet$Answers" "replies" "[I" := Or.inr ⟨"HummingSet", zmN 84 (by decide +kernel) rfl⟩
set_option maxRecDepth 100000 in
theorem zfk_HummingSet_Part_15 : zfm "HummingSet$Part" 15 "HummingSet$Part" "loss" "I" := Or.inl (zmW 228 (by decide +kernel) rfl)
set_option maxRecDepth 100000 in
theorem zmaS_mmax : Cond.static Lib.Math.max.name ∈ zWS := zmW 589 (by decide +kernel) rfl
set_option maxRecDepth 100000 in
theorem zmaC_mmax : Cond.code Lib.Math.max.name Lib.Math.max.code 2 (some .int) ∈ zWS := zmW 590 (by decide +kernel) rfl
set_option maxRecDepth 100000 in
theorem zmaL_mmax_HummingSet_Part_19 : Cond.methodLink "HummingSet$Part" 19 Lib.Math.max.name ∈ zWS := zmW 588 (by decide +kernel) rfl
set_option maxRecDepth 100000 in
theorem zfk_HummingSet_Part_25 : zfm "HummingSet$Part" 25 "HummingSet$Part" "volts" "I" := Or.inl (zmW 226 (by decide +kernel) rfl)
set_option maxRecDepth 100000 in
theorem zca18 : zcal 18 1 := ⟨by decide +kernel, zcw18, by decide +kernel, by decide +kernel, zmW (w := Cond.initialized "HummingSet$Part") 11 (by decide +kernel) rfl⟩
set_option maxRecDepth 100000 in
theorem zin18 : Cond.instanceMethod (zy 18) ∈ zWS := zmW (w := Cond.instanceMethod zy18) 586 (by decide +kernel) rfl
set_option maxRecDepth 100000 in
theorem zse18 : Cond.selects zC3 (zy 18) (zy 18) ∈ zWS := zmS (w := Cond.selects zC3 zy18 zy18) 37 (by decide +kernel) rfl
set_option maxRecDepth 100000 in
theorem zmk_HummingSet_Part_28 : zmm "HummingSet$Part" 28 zy18 := Or.inl (zmW 584 (by decide +kernel) rfl)
set_option maxRecDepth 100000 in
theorem zmk_HummingSet_Plan_19 : zmm "HummingSet$Plan" 19 zy48 := Or.inr ⟨"HummingSet", zmN 340 (by decide +kernel) rfl⟩
set_option maxRecDepth 100000 in
theorem zmk_HummingSet_Plan_25 : zmm "HummingSet$Plan" 25 zy175 := Or.inl (zmW 344 (by decide +kernel) rfl)
set_option maxRecDepth 100000 in
theorem zmk_HummingSet_Plan_31 : zmm "HummingSet$Plan" 31 zy4 := Or.inr ⟨"HummingSet", zmN 350 (by decide +kernel) rfl⟩
set_option maxRecDepth 100000 in
theorem zfk_HummingSet_Plan_9 : zfm "HummingSet$Plan" 9 "HummingSet$Plan" "quiet" "[Z" := Or.inl (zmW 159 (by decide +kernel) rfl)
set_option maxRecDepth 100000 in
theorem zmk_HummingSet_Plan_37 : zmm "HummingSet$Plan" 37 zy6 := Or.inr ⟨"HummingSet", zmN 359 (by decide +kernel) rfl⟩
set_option maxRecDepth 100000 in
theorem zfk_HummingSet_Plan_41 : zfm "HummingSet$Plan" 41 "HummingSet$Cases" "count" "I" := Or.inr ⟨"HummingSet", zmN 112 (by decide +kernel) rfl⟩
set_option maxRecDepth 100000 in
theorem zfk_HummingSet_Plan_47 : zfm "HummingSet$Plan" 47 "HummingSet$Cases" "states" "[I" := Or.inr ⟨"HummingSet", zmN 106 (by decide +kernel) rfl⟩
set_option maxRecDepth 100000 in
theorem zfk_HummingSet_Plan_51 : zfm "HummingSet$Plan" 51 "HummingSet$Cases" "weights" "[J" := Or.inr ⟨"HummingSet", zmN 109 (by decide +kernel) rfl⟩
set_option maxRecDepth 100000 in
theorem zca65 : zcal 65 1 := ⟨by decide +kernel, zcw65, by decide +kernel, by decide +kernel, zmW (w := Cond.initialized "HummingSet$Wireless") 9 (by decide +kernel) rfl⟩
set_option maxRecDepth 100000 in
theorem zin65 : Cond.instanceMethod (zy 65) ∈ zWS := zmW (w := Cond.instanceMethod zy65) 679 (by decide +kernel) rfl
set_option maxRecDepth 100000 in
theorem zse65 : Cond.selects zC10 (zy 65) (zy 65) ∈ zWS := zmS (w := Cond.selects zC10 zy65 zy65) 47 (by decide +kernel) rfl
set_option maxRecDepth 100000 in
theorem zmk_HummingSet_Plan_54 : zmm "HummingSet$Plan" 54 zy65 := Or.inr ⟨"HummingSet", zmN 677 (by decide +kernel) rfl⟩
set_option maxRecDepth 100000 in
theorem zfk_HummingSet_Plan_59 : zfm "HummingSet$Plan" 59 "HummingSet$Cases" "total" "J" := Or.inr ⟨"HummingSet", zmN 116 (by decide +kernel) rfl⟩
set_option maxRecDepth 100000 in
theorem zca23 : zcal 23 2 := ⟨by decide +kernel, zcw23, by decide +kernel, by decide +kernel, zmW (w := Cond.initialized "HummingSet$Plan") 8 (by decide +kernel) rfl⟩
set_option maxRecDepth 100000 in
theorem zin23 : Cond.instanceMethod (zy 23) ∈ zWS := zmW (w := Cond.instanceMethod zy23) 684 (by decide +kernel) rfl
set_option maxRecDepth 100000 in
theorem zse23 : Cond.selects zC4 (zy 23) (zy 23) ∈ zWS := zmS (w := Cond.selects zC4 zy23 zy23) 48 (by decide +kernel) rfl
set_option maxRecDepth 100000 in
theorem zmk_HummingSet_Plan_63 : zmm "HummingSet$Plan" 63 zy23 := Or.inl (zmW 682 (by decide +kernel) rfl)
set_option maxRecDepth 100000 in
theorem zfk_HummingSet_Plan_67 : zfm "HummingSet$Plan" 67 "HummingSet$Wireless" "partCount" "I" := Or.inr ⟨"HummingSet", zmN 283 (by decide +kernel) rfl⟩
set_option maxRecDepth 100000 in
theorem zmaL_mmin_HummingSet_Plan_70 : Cond.methodLink "HummingSet$Plan" 70 Lib.Math.min.name ∈ zWS := zmW 695 (by decide +kernel) rfl
set_option maxRecDepth 100000 in
theorem zfk_HummingSet_Plan_15 : zfm "HummingSet$Plan" 15 "HummingSet$Plan" "sums" "[J" := Or.inl (zmW 160 (by decide +kernel) rfl)
set_option maxRecDepth 100000 in
theorem zfk_HummingSet_Plan_76 : zfm "HummingSet$Plan" 76 "HummingSet$Plan" "firstPart" "I" := Or.inl (zmW 162 (by decide +kernel) rfl)
set_option maxRecDepth 100000 in
theorem zca26 : zcal 26 3 := ⟨by decide +kernel, zcw26, by decide +kernel, by decide +kernel, zmW (w := Cond.initialized "HummingSet$Plan") 8 (by decide +kernel) rfl⟩
set_option maxRecDepth 100000 in
theorem zin26 : Cond.instanceMethod (zy 26) ∈ zWS := zmW (w := Cond.instanceMethod zy26) 698 (by decide +kernel) rfl
set_option maxRecDepth 100000 in
theorem zse26 : Cond.selects zC4 (zy 26) (zy 26) ∈ zWS := zmS (w := Cond.selects zC4 zy26 zy26) 50 (by decide +kernel) rfl
set_option maxRecDepth 100000 in
theorem zmk_HummingSet_Plan_79 : zmm "HummingSet$Plan" 79 zy26 := Or.inl (zmW 696 (by decide +kernel) rfl)
set_option maxRecDepth 100000 in
theorem zfk_HummingSet_Plan_83 : zfm "HummingSet$Plan" 83 "HummingSet$Wireless" "parts" "[LHummingSet$Part;" := Or.inr ⟨"HummingSet", zmN 273 (by decide +kernel) rfl⟩
set_option maxRecDepth 100000 in
theorem zfk_HummingSet_Plan_87 : zfm "HummingSet$Plan" 87 "HummingSet$Part" "cost" "I" := Or.inr ⟨"HummingSet", zmN 223 (by decide +kernel) rfl⟩
set_option maxRecDepth 100000 in
theorem zca45 : zcal 45 0 := ⟨by decide +kernel, zcw45, by decide +kernel, by decide +kernel, zmW (w := Cond.initialized "HummingSet$Wireless") 9 (by decide +kernel) rfl⟩
set_option maxRecDepth 100000 in
theorem zin45 : Cond.instanceMethod (zy 45) ∈ zWS := zmW (w := Cond.instanceMethod zy45) 266 (by decide +kernel) rfl
set_option maxRecDepth 100000 in
theorem zse45 : Cond.selects zC10 (zy 45) (zy 45) ∈ zWS := zmS (w := Cond.selects zC10 zy45 zy45) 0 (by decide +kernel) rfl
set_option maxRecDepth 100000 in
theorem zmk_HummingSet_Reader_15 : zmm "HummingSet$Reader" 15 zy45 := Or.inr ⟨"HummingSet", zmN 465 (by decide +kernel) rfl⟩
set_option maxRecDepth 100000 in
theorem zfk_HummingSet_Reader_20 : zfm "HummingSet$Reader" 20 "HummingSet$Reader" "place" "I" := Or.inl (zmW 47 (by decide +kernel) rfl)
set_option maxRecDepth 100000 in
theorem zfk_HummingSet_Reader_24 : zfm "HummingSet$Reader" 24 "HummingSet$Text" "length" "I" := Or.inr ⟨"HummingSet", zmN 32 (by decide +kernel) rfl⟩
set_option maxRecDepth 100000 in
theorem zca29 : zcal 29 2 := ⟨by decide +kernel, zcw29, by decide +kernel, by decide +kernel, zmW (w := Cond.initialized "HummingSet$Reader") 3 (by decide +kernel) rfl⟩
set_option maxRecDepth 100000 in
theorem zin29 : Cond.instanceMethod (zy 29) ∈ zWS := zmW (w := Cond.instanceMethod zy29) 468 (by decide +kernel) rfl
set_option maxRecDepth 100000 in
theorem zse29 : Cond.selects zC5 (zy 29) (zy 29) ∈ zWS := zmS (w := Cond.selects zC5 zy29 zy29) 20 (by decide +kernel) rfl
set_option maxRecDepth 100000 in
theorem zmk_HummingSet_Reader_29 : zmm "HummingSet$Reader" 29 zy29 := Or.inl (zmW 466 (by decide +kernel) rfl)
set_option maxRecDepth 100000 in
theorem zca42 : zcal 42 1 := ⟨by decide +kernel, zcw42, by decide +kernel, by decide +kernel, zmW (w := Cond.initialized "HummingSet$Text") 2 (by decide +kernel) rfl⟩
set_option maxRecDepth 100000 in
theorem zin42 : Cond.instanceMethod (zy 42) ∈ zWS := zmW (w := Cond.instanceMethod zy42) 472 (by decide +kernel) rfl
set_option maxRecDepth 100000 in
theorem zse42 : Cond.selects zC8 (zy 42) (zy 42) ∈ zWS := zmS (w := Cond.selects zC8 zy42 zy42) 21 (by decide +kernel) rfl
set_option maxRecDepth 100000 in
theorem zmk_HummingSet_Reader_33 : zmm "HummingSet$Reader" 33 zy42 := Or.inr ⟨"HummingSet", zmN 470 (by decide +kernel) rfl⟩
set_option maxRecDepth 100000 in
theorem zca30 : zcal 30 1 := ⟨by decide +kernel, zcw30, by decide +kernel, by decide +kernel, zmW (w := Cond.initialized "HummingSet$Reader") 3 (by decide +kernel) rfl⟩
set_option maxRecDepth 100000 in
theorem zst30 : Cond.static (zy 30) ∈ zWS := zmW (w := Cond.static zy30) 475 (by decide +kernel) rfl
set_option maxRecDepth 100000 in
theorem zmk_HummingSet_Reader_37 : zmm "HummingSet$Reader" 37 zy30 := Or.inl (zmW 474 (by decide +kernel) rfl)
set_option maxRecDepth 100000 in
theorem zca31 : zcal 31 2 := ⟨by decide +kernel, zcw31, by decide +kernel, by decide +kernel, zmW (w := Cond.initialized "HummingSet$Reader") 3 (by decide +kernel) rfl⟩
set_option maxRecDepth 100000 in
theorem zin31 : Cond.instanceMethod (zy 31) ∈ zWS := zmW (w := Cond.instanceMethod zy31) 479 (by decide +kernel) rfl
set_option maxRecDepth 100000 in
theorem zse31 : Cond.selects zC5 (zy 31) (zy 31) ∈ zWS := zmS (w := Cond.selects zC5 zy31 zy31) 22 (by decide +kernel) rfl
set_option maxRecDepth 100000 in
theorem zmk_HummingSet_Reader_40 : zmm "HummingSet$Reader" 40 zy31 := Or.inl (zmW 477 (by decide +kernel) rfl)
set_option maxRecDepth 100000 in
theorem zca32 : zcal 32 2 := ⟨by decide +kernel, zcw32, by decide +kernel, by decide +kernel, zmW (w := Cond.initialized "HummingSet$Reader") 3 (by decide +kernel) rfl⟩
set_option maxRecDepth 100000 in
theorem zin32 : Cond.instanceMethod (zy 32) ∈ zWS := zmW (w := Cond.instanceMethod zy32) 484 (by decide +kernel) rfl
set_option maxRecDepth 100000 in
theorem zse32 : Cond.selects zC5 (zy 32) (zy 32) ∈ zWS := zmS (w := Cond.selects zC5 zy32 zy32) 23 (by decide +kernel) rfl
set_option maxRecDepth 100000 in
theorem zmk_HummingSet_Reader_44 : zmm "HummingSet$Reader" 44 zy32 := Or.inl (zmW 482 (by decide +kernel) rfl)
set_option maxRecDepth 100000 in
theorem zca100 : zcal 100 3 := ⟨by decide +kernel, zcw100, by decide +kernel, by decide +kernel, zmW (w := Cond.initialized "HummingSet") 1 (by decide +kernel) rfl⟩
set_option maxRecDepth 100000 in
theorem zst100 : Cond.static (zy 100) ∈ zWS := zmW (w := Cond.static zy100) 314 (by decide +kernel) rfl
set_option maxRecDepth 100000 in
theorem zmk_HummingSet_Reader_48 : zmm "HummingSet$Reader" 48 zy100 := Or.inr ⟨"HummingSet", zmN 481 (by decide +kernel) rfl⟩
set_option maxRecDepth 100000 in
theorem zfk_HummingSet_Reader_9 : zfm "HummingSet$Reader" 9 "HummingSet$Reader" "numbers" "[I" := Or.inl (zmW 46 (by decide +kernel) rfl)
set_option maxRecDepth 100000 in
theorem zca51 : zcal 51 2 := ⟨by decide +kernel, zcw51, by decide +kernel, by decide +kernel, zmW (w := Cond.initialized "HummingSet$Wireless") 9 (by decide +kernel) rfl⟩
set_option maxRecDepth 100000 in
theorem zin51 : Cond.instanceMethod (zy 51) ∈ zWS := zmW (w := Cond.instanceMethod zy51) 311 (by decide +kernel) rfl
set_option maxRecDepth 100000 in
theorem zse51 : Cond.selects zC10 (zy 51) (zy 51) ∈ zWS := zmS (w := Cond.selects zC10 zy51 zy51) 1 (by decide +kernel) rfl
set_option maxRecDepth 100000 in
theorem zmk_HummingSet_Reader_52 : zmm "HummingSet$Reader" 52 zy51 := Or.inr ⟨"HummingSet", zmN 486 (by decide +kernel) rfl⟩
set_option maxRecDepth 100000 in
theorem zca52 : zcal 52 5 := ⟨by decide +kernel, zcw52, by decide +kernel, by decide +kernel, zmW (w := Cond.initialized "HummingSet$Wireless") 9 (by decide +kernel) rfl⟩
set_option maxRecDepth 100000 in
theorem zin52 : Cond.instanceMethod (zy 52) ∈ zWS := zmW (w := Cond.instanceMethod zy52) 318 (by decide +kernel) rfl
set_option maxRecDepth 100000 in
theorem zse52 : Cond.selects zC10 (zy 52) (zy 52) ∈ zWS := zmS (w := Cond.selects zC10 zy52 zy52) 2 (by decide +kernel) rfl
set_option maxRecDepth 100000 in
theorem zmk_HummingSet_Reader_56 : zmm "HummingSet$Reader" 56 zy52 := Or.inr ⟨"HummingSet", zmN 487 (by decide +kernel) rfl⟩
set_option maxRecDepth 100000 in
theorem zca53 : zcal 53 3 := ⟨by decide +kernel, zcw53, by decide +kernel, by decide +kernel, zmW (w := Cond.initialized "HummingSet$Wireless") 9 (by decide +kernel) rfl⟩
set_option maxRecDepth 100000 in
theorem zin53 : Cond.instanceMethod (zy 53) ∈ zWS := zmW (w := Cond.instanceMethod zy53) 326 (by decide +kernel) rfl
set_option maxRecDepth 100000 in
theorem zse53 : Cond.selects zC10 (zy 53) (zy 53) ∈ zWS := zmS (w := Cond.selects zC10 zy53 zy53) 4 (by decide +kernel) rfl
set_option maxRecDepth 100000 in
theorem zmk_HummingSet_Reader_60 : zmm "HummingSet$Reader" 60 zy53 := Or.inr ⟨"HummingSet", zmN 488 (by decide +kernel) rfl⟩
set_option maxRecDepth 100000 in
theorem zca54 : zcal 54 3 := ⟨by decide +kernel, zcw54, by decide +kernel, by decide +kernel, zmW (w := Cond.initialized "HummingSet$Wireless") 9 (by decide +kernel) rfl⟩
set_option maxRecDepth 100000 in
theorem zin54 : Cond.instanceMethod (zy 54) ∈ zWS := zmW (w := Cond.instanceMethod zy54) 491 (by decide +kernel) rfl
set_option maxRecDepth 100000 in
theorem zse54 : Cond.selects zC10 (zy 54) (zy 54) ∈ zWS := zmS (w := Cond.selects zC10 zy54 zy54) 24 (by decide +kernel) rfl
set_option maxRecDepth 100000 in
theorem zmk_HummingSet_Reader_63 : zmm "HummingSet$Reader" 63 zy54 := Or.inr ⟨"HummingSet", zmN 489 (by decide +kernel) rfl⟩
set_option maxRecDepth 100000 in
theorem zca55 : zcal 55 2 := ⟨by decide +kernel, zcw55, by decide +kernel, by decide +kernel, zmW (w := Cond.initialized "HummingSet$Wireless") 9 (by decide +kernel) rfl⟩
set_option maxRecDepth 100000 in
theorem zin55 : Cond.instanceMethod (zy 55) ∈ zWS := zmW (w := Cond.instanceMethod zy55) 495 (by decide +kernel) rfl
set_option maxRecDepth 100000 in
theorem zse55 : Cond.selects zC10 (zy 55) (zy 55) ∈ zWS := zmS (w := Cond.selects zC10 zy55 zy55) 25 (by decide +kernel) rfl
set_option maxRecDepth 100000 in
theorem zmk_HummingSet_Reader_66 : zmm "HummingSet$Reader" 66 zy55 := Or.inr ⟨"HummingSet", zmN 493 (by decide +kernel) rfl⟩
set_option maxRecDepth 100000 in
theorem zca56 : zcal 56 3 := ⟨by decide +kernel, zcw56, by decide +kernel, by decide +kernel, zmW (w := Cond.initialized "HummingSet$Wireless") 9 (by decide +kernel) rfl⟩
set_option maxRecDepth 100000 in
theorem zin56 : Cond.instanceMethod (zy 56) ∈ zWS := zmW (w := Cond.instanceMethod zy56) 499 (by decide +kernel) rfl
set_option maxRecDepth 100000 in
theorem zse56 : Cond.selects zC10 (zy 56) (zy 56) ∈ zWS := zmS (w := Cond.selects zC10 zy56 zy56) 26 (by decide +kernel) rfl
set_option maxRecDepth 100000 in
theorem zmk_HummingSet_Reader_69 : zmm "HummingSet$Reader" 69 zy56 := Or.inr ⟨"HummingSet", zmN 497 (by decide +kernel) rfl⟩
set_option maxRecDepth 100000 in
theorem zca57 : zcal 57 2 := ⟨by decide +kernel, zcw57, by decide +kernel, by decide +kernel, zmW (w := Cond.initialized "HummingSet$Wireless") 9 (by decide +kernel) rfl⟩
set_option maxRecDepth 100000 in
theorem zin57 : Cond.instanceMethod (zy 57) ∈ zWS := zmW (w := Cond.instanceMethod zy57) 503 (by decide +kernel) rfl
set_option maxRecDepth 100000 in
theorem zse57 : Cond.selects zC10 (zy 57) (zy 57) ∈ zWS := zmS (w := Cond.selects zC10 zy57 zy57) 27 (by decide +kernel) rfl
set_option maxRecDepth 100000 in
theorem zmk_HummingSet_Reader_72 : zmm "HummingSet$Reader" 72 zy57 := Or.inr ⟨"HummingSet", zmN 501 (by decide +kernel) rfl⟩
set_option maxRecDepth 100000 in
theorem zca58 : zcal 58 2 := ⟨by decide +kernel, zcw58, by decide +kernel, by decide +kernel, zmW (w := Cond.initialized "HummingSet$Wireless") 9 (by decide +kernel) rfl⟩
set_option maxRecDepth 100000 in
theorem zin58 : Cond.instanceMethod (zy 58) ∈ zWS := zmW (w := Cond.instanceMethod zy58) 507 (by decide +kernel) rfl
set_option maxRecDepth 100000 in
theorem zse58 : Cond.selects zC10 (zy 58) (zy 58) ∈ zWS := zmS (w := Cond.selects zC10 zy58 zy58) 28 (by decide +kernel) rfl
set_option maxRecDepth 100000 in
theorem zmk_HummingSet_Reader_75 : zmm "HummingSet$Reader" 75 zy58 := Or.inr ⟨"HummingSet", zmN 505 (by decide +kernel) rfl⟩
set_option maxRecDepth 100000 in
theorem zca59 : zcal 59 3 := ⟨by decide +kernel, zcw59, by decide +kernel, by decide +kernel, zmW (w := Cond.initialized "HummingSet$Wireless") 9 (by decide +kernel) rfl⟩
set_option maxRecDepth 100000 in
theorem zin59 : Cond.instanceMethod (zy 59) ∈ zWS := zmW (w := Cond.instanceMethod zy59) 511 (by decide +kernel) rfl
set_option maxRecDepth 100000 in
theorem zse59 : Cond.selects zC10 (zy 59) (zy 59) ∈ zWS := zmS (w := Cond.selects zC10 zy59 zy59) 29 (by decide +kernel) rfl
set_option maxRecDepth 100000 in
theorem zmk_HummingSet_Reader_78 : zmm "HummingSet$Reader" 78 zy59 := Or.inr ⟨"HummingSet", zmN 509 (by decide +kernel) rfl⟩
set_option maxRecDepth 100000 in
theorem zfk_HummingSet_Search_15 : zfm "HummingSet$Search" 15 "HummingSet$Search" "kind" "I" := Or.inl (zmW 135 (by decide +kernel) rfl)
set_option maxRecDepth 100000 in
theorem zca50 : zcal 50 1 := ⟨by decide +kernel, zcw50, by decide +kernel, by decide +kernel, zmW (w := Cond.initialized "HummingSet$Wireless") 9 (by decide +kernel) rfl⟩
set_option maxRecDepth 100000 in
theorem zin50 : Cond.instanceMethod (zy 50) ∈ zWS := zmW (w := Cond.instanceMethod zy50) 557 (by decide +kernel) rfl
set_option maxRecDepth 100000 in
theorem zse50 : Cond.selects zC10 (zy 50) (zy 50) ∈ zWS := zmS (w := Cond.selects zC10 zy50 zy50) 32 (by decide +kernel) rfl
set_option maxRecDepth 100000 in
theorem zmk_HummingSet_Search_19 : zmm "HummingSet$Search" 19 zy50 := Or.inr ⟨"HummingSet", zmN 649 (by decide +kernel) rfl⟩
set_option maxRecDepth 100000 in
theorem zca37 : zcal 37 6 := ⟨by decide +kernel, zcw37, by decide +kernel, by decide +kernel, zmW (w := Cond.initialized "HummingSet$Search") 7 (by decide +kernel) rfl⟩
set_option maxRecDepth 100000 in
theorem zin37 : Cond.instanceMethod (zy 37) ∈ zWS := zmW (w := Cond.instanceMethod zy37) 652 (by decide +kernel) rfl
set_option maxRecDepth 100000 in
theorem zse37 : Cond.selects zC6 (zy 37) (zy 37) ∈ zWS := zmS (w := Cond.selects zC6 zy37 zy37) 44 (by decide +kernel) rfl
set_option maxRecDepth 100000 in
theorem zmk_HummingSet_Search_25 : zmm "HummingSet$Search" 25 zy37 := Or.inl (zmW 650 (by decide +kernel) rfl)
set_option maxRecDepth 100000 in
theorem zca60 : zcal 60 2 := ⟨by decide +kernel, zcw60, by decide +kernel, by decide +kernel, zmW (w := Cond.initialized "HummingSet$Wireless") 9 (by decide +kernel) rfl⟩
set_option maxRecDepth 100000 in
theorem zin60 : Cond.instanceMethod (zy 60) ∈ zWS := zmW (w := Cond.instanceMethod zy60) 566 (by decide +kernel) rfl
set_option maxRecDepth 100000 in
theorem zse60 : Cond.selects zC10 (zy 60) (zy 60) ∈ zWS := zmS (w := Cond.selects zC10 zy60 zy60) 33 (by decide +kernel) rfl
set_option maxRecDepth 100000 in
theorem zmk_HummingSet_Search_29 : zmm "HummingSet$Search" 29 zy60 := Or.inr ⟨"HummingSet", zmN 659 (by decide +kernel) rfl⟩
set_option maxRecDepth 100000 in
theorem zca35 : zcal 35 3 := ⟨by decide +kernel, zcw35, by decide +kernel, by decide +kernel, zmW (w := Cond.initialized "HummingSet$Search") 7 (by decide +kernel) rfl⟩
set_option maxRecDepth 100000 in
theorem zin35 : Cond.instanceMethod (zy 35) ∈ zWS := zmW (w := Cond.instanceMethod zy35) 662 (by decide +kernel) rfl
set_option maxRecDepth 100000 in
theorem zse35 : Cond.selects zC6 (zy 35) (zy 35) ∈ zWS := zmS (w := Cond.selects zC6 zy35 zy35) 45 (by decide +kernel) rfl
set_option maxRecDepth 100000 in
theorem zmk_HummingSet_Search_33 : zmm "HummingSet$Search" 33 zy35 := Or.inl (zmW 660 (by decide +kernel) rfl)
set_option maxRecDepth 100000 in
theorem zfk_HummingSet_Search_37 : zfm "HummingSet$Search" 37 "HummingSet$Search" "of" "I" := Or.inl (zmW 137 (by decide +kernel) rfl)
set_option maxRecDepth 100000 in
theorem zfk_HummingSet_Search_40 : zfm "HummingSet$Search" 40 "HummingSet$Search" "weight" "J" := Or.inl (zmW 139 (by decide +kernel) rfl)
set_option maxRecDepth 100000 in
theorem zfk_HummingSet_Search_44 : zfm "HummingSet$Search" 44 "HummingSet$Search" "danger" "I" := Or.inl (zmW 141 (by decide +kernel) rfl)
set_option maxRecDepth 100000 in
theorem zca36 : zcal 36 1 := ⟨by decide +kernel, zcw36, by decide +kernel, by decide +kernel, zmW (w := Cond.initialized "HummingSet$Search") 7 (by decide +kernel) rfl⟩
set_option maxRecDepth 100000 in
theorem zst36 : Cond.static (zy 36) ∈ zWS := zmW (w := Cond.static zy36) 665 (by decide +kernel) rfl
set_option maxRecDepth 100000 in
theorem zmk_HummingSet_Search_47 : zmm "HummingSet$Search" 47 zy36 := Or.inl (zmW 664 (by decide +kernel) rfl)
set_option maxRecDepth 100000 in
theorem zfk_HummingSet_Search_50 : zfm "HummingSet$Search" 50 "HummingSet" "MINUTES" "[I" := Or.inr ⟨"HummingSet", zmN 667 (by decide +kernel) rfl⟩
set_option maxRecDepth 100000 in
theorem zfk_HummingSet_Search_9 : zfm "HummingSet$Search" 9 "HummingSet$Search" "byReply" "[J" := Or.inl (zmW 134 (by decide +kernel) rfl)
set_option maxRecDepth 100000 in
theorem zfk_HummingSet_Search_54 : zfm "HummingSet$Search" 54 "HummingSet$Cases" "count" "I" := Or.inr ⟨"HummingSet", zmN 113 (by decide +kernel) rfl⟩
set_option maxRecDepth 100000 in
theorem zfk_HummingSet_Search_59 : zfm "HummingSet$Search" 59 "HummingSet$Cases" "states" "[I" := Or.inr ⟨"HummingSet", zmN 107 (by decide +kernel) rfl⟩
set_option maxRecDepth 100000 in
theorem zmk_HummingSet_Search_62 : zmm "HummingSet$Search" 62 zy9 := Or.inr ⟨"HummingSet", zmN 654 (by decide +kernel) rfl⟩
set_option maxRecDepth 100000 in
theorem zmk_HummingSet_Search_68 : zmm "HummingSet$Search" 68 zy100 := Or.inr ⟨"HummingSet", zmN 655 (by decide +kernel) rfl⟩
set_option maxRecDepth 100000 in
theorem zfk_HummingSet_Search_72 : zfm "HummingSet$Search" 72 "HummingSet$Cases" "weights" "[J" := Or.inr ⟨"HummingSet", zmN 110 (by decide +kernel) rfl⟩
set_option maxRecDepth 100000 in
theorem zmaS_mmaxl : Cond.static Lib.MathLoose.max_long.x ∈ zWS := zmW 657 (by decide +kernel) rfl
set_option maxRecDepth 100000 in
theorem zmaC_mmaxl : Cond.code Lib.MathLoose.max_long.x Lib.MathLoose.max_long.code 4 (some .long) ∈ zWS := zmW 658 (by decide +kernel) rfl
set_option maxRecDepth 100000 in
theorem zmaL_mmaxl_HummingSet_Search_75 : Cond.methodLink "HummingSet$Search" 75 Lib.MathLoose.max_long.x ∈ zWS := zmW 656 (by decide +kernel) rfl
set_option maxRecDepth 100000 in
theorem zfk_HummingSet_Text_15 : zfm "HummingSet$Text" 15 "HummingSet$Text" "length" "I" := Or.inl (zmW 31 (by decide +kernel) rfl)
set_option maxRecDepth 100000 in
theorem zfk_HummingSet_Text_9 : zfm "HummingSet$Text" 9 "HummingSet$Text" "bytes" "[B" := Or.inl (zmW 30 (by decide +kernel) rfl)
set_option maxRecDepth 100000 in
theorem zfk_HummingSet_Wireless_42 : zfm "HummingSet$Wireless" 42 "HummingSet$Wireless" "stageCount" "I" := Or.inl (zmW 278 (by decide +kernel) rfl)
set_option maxRecDepth 100000 in
theorem zfk_HummingSet_Wireless_46 : zfm "HummingSet$Wireless" 46 "HummingSet$Wireless" "partCount" "I" := Or.inl (zmW 281 (by decide +kernel) rfl)
set_option maxRecDepth 100000 in
theorem zfk_HummingSet_Wireless_49 : zfm "HummingSet$Wireless" 49 "HummingSet$Wireless" "wayCount" "I" := Or.inl (zmW 285 (by decide +kernel) rfl)
set_option maxRecDepth 100000 in
theorem zfk_HummingSet_Wireless_52 : zfm "HummingSet$Wireless" 52 "HummingSet$Wireless" "letCount" "I" := Or.inl (zmW 286 (by decide +kernel) rfl)
set_option maxRecDepth 100000 in
theorem zfk_HummingSet_Wireless_55 : zfm "HummingSet$Wireless" 55 "HummingSet$Wireless" "mainsCount" "I" := Or.inl (zmW 287 (by decide +kernel) rfl)
set_option maxRecDepth 100000 in
theorem zfk_HummingSet_Wireless_29 : zfm "HummingSet$Wireless" 29 "HummingSet$Wireless" "ears" "[I" := Or.inl (zmW 275 (by decide +kernel) rfl)
set_option maxRecDepth 100000 in
theorem zfk_HummingSet_Wireless_33 : zfm "HummingSet$Wireless" 33 "HummingSet$Wireless" "yearly" "[I" := Or.inl (zmW 277 (by decide +kernel) rfl)
set_option maxRecDepth 100000 in
theorem zmk_HummingSet_Wireless_58 : zmm "HummingSet$Wireless" 58 zy100 := Or.inr ⟨"HummingSet", zmN 313 (by decide +kernel) rfl⟩
set_option maxRecDepth 100000 in
theorem zmk_HummingSet_Wireless_62 : zmm "HummingSet$Wireless" 62 zy50 := Or.inl (zmW 555 (by decide +kernel) rfl)
set_option maxRecDepth 100000 in
theorem zfk_HummingSet_Wireless_11 : zfm "HummingSet$Wireless" 11 "HummingSet$Wireless" "stages" "[LHummingSet$Stage;" := Or.inl (zmW 268 (by decide +kernel) rfl)
set_option maxRecDepth 100000 in
theorem zfk_HummingSet_Wireless_66 : zfm "HummingSet$Wireless" 66 "HummingSet$Stage" "gain" "I" := Or.inr ⟨"HummingSet", zmN 193 (by decide +kernel) rfl⟩
set_option maxRecDepth 100000 in
theorem zfk_HummingSet_Wireless_69 : zfm "HummingSet$Wireless" 69 "HummingSet$Stage" "bears" "I" := Or.inr ⟨"HummingSet", zmN 194 (by decide +kernel) rfl⟩
set_option maxRecDepth 100000 in
theorem zfk_HummingSet_Wireless_72 : zfm "HummingSet$Wireless" 72 "HummingSet$Stage" "mains" "[I" := Or.inr ⟨"HummingSet", zmN 191 (by decide +kernel) rfl⟩
set_option maxRecDepth 100000 in
theorem zmk_HummingSet_Wireless_75 : zmm "HummingSet$Wireless" 75 zy46 := Or.inl (zmW 320 (by decide +kernel) rfl)
set_option maxRecDepth 100000 in
theorem zfk_HummingSet_Wireless_19 : zfm "HummingSet$Wireless" 19 "HummingSet$Wireless" "parts" "[LHummingSet$Part;" := Or.inl (zmW 270 (by decide +kernel) rfl)
set_option maxRecDepth 100000 in
theorem zfk_HummingSet_Wireless_79 : zfm "HummingSet$Wireless" 79 "HummingSet$Part" "stage" "I" := Or.inr ⟨"HummingSet", zmN 212 (by decide +kernel) rfl⟩
set_option maxRecDepth 100000 in
theorem zfk_HummingSet_Wireless_82 : zfm "HummingSet$Wireless" 82 "HummingSet$Part" "kind" "I" := Or.inr ⟨"HummingSet", zmN 215 (by decide +kernel) rfl⟩
set_option maxRecDepth 100000 in
theorem zfk_HummingSet_Wireless_85 : zfm "HummingSet$Wireless" 85 "HummingSet$Part" "age" "I" := Or.inr ⟨"HummingSet", zmN 217 (by decide +kernel) rfl⟩
set_option maxRecDepth 100000 in
theorem zfk_HummingSet_Wireless_88 : zfm "HummingSet$Wireless" 88 "HummingSet$Part" "trouble" "I" := Or.inr ⟨"HummingSet", zmN 219 (by decide +kernel) rfl⟩
set_option maxRecDepth 100000 in
theorem zfk_HummingSet_Wireless_91 : zfm "HummingSet$Wireless" 91 "HummingSet$Part" "warm" "I" := Or.inr ⟨"HummingSet", zmN 222 (by decide +kernel) rfl⟩
set_option maxRecDepth 100000 in
theorem zfk_HummingSet_Wireless_94 : zfm "HummingSet$Wireless" 94 "HummingSet$Part" "cost" "I" := Or.inr ⟨"HummingSet", zmN 225 (by decide +kernel) rfl⟩
set_option maxRecDepth 100000 in
theorem zfk_HummingSet_Wireless_97 : zfm "HummingSet$Wireless" 97 "HummingSet$Part" "volts" "I" := Or.inr ⟨"HummingSet", zmN 227 (by decide +kernel) rfl⟩
set_option maxRecDepth 100000 in
theorem zfk_HummingSet_Wireless_100 : zfm "HummingSet$Wireless" 100 "HummingSet$Part" "loss" "I" := Or.inr ⟨"HummingSet", zmN 229 (by decide +kernel) rfl⟩
set_option maxRecDepth 100000 in
theorem zfk_HummingSet_Wireless_103 : zfm "HummingSet$Wireless" 103 "HummingSet$Part" "lets" "[I" := Or.inr ⟨"HummingSet", zmN 209 (by decide +kernel) rfl⟩
set_option maxRecDepth 100000 in
theorem zmk_HummingSet_Wireless_106 : zmm "HummingSet$Wireless" 106 zy47 := Or.inl (zmW 328 (by decide +kernel) rfl)
set_option maxRecDepth 100000 in
theorem zca101 : zcal 101 1 := ⟨by decide +kernel, zcw101, by decide +kernel, by decide +kernel, zmW (w := Cond.initialized "HummingSet") 1 (by decide +kernel) rfl⟩
set_option maxRecDepth 100000 in
theorem zst101 : Cond.static (zy 101) ∈ zWS := zmW (w := Cond.static zy101) 333 (by decide +kernel) rfl
set_option maxRecDepth 100000 in
theorem zmk_HummingSet_Wireless_109 : zmm "HummingSet$Wireless" 109 zy101 := Or.inr ⟨"HummingSet", zmN 332 (by decide +kernel) rfl⟩
set_option maxRecDepth 100000 in
theorem zfk_HummingSet_Wireless_25 : zfm "HummingSet$Wireless" 25 "HummingSet$Wireless" "ways" "[LHummingSet$Way;" := Or.inl (zmW 274 (by decide +kernel) rfl)
set_option maxRecDepth 100000 in
theorem zfk_HummingSet_Wireless_112 : zfm "HummingSet$Wireless" 112 "HummingSet$Way" "stage" "I" := Or.inr ⟨"HummingSet", zmN 254 (by decide +kernel) rfl⟩
set_option maxRecDepth 100000 in
theorem zfk_HummingSet_Wireless_113 : zfm "HummingSet$Wireless" 113 "HummingSet$Way" "tone" "I" := Or.inr ⟨"HummingSet", zmN 255 (by decide +kernel) rfl⟩
set_option maxRecDepth 100000 in
theorem zfk_HummingSet_Wireless_116 : zfm "HummingSet$Wireless" 116 "HummingSet$Way" "hundredths" "I" := Or.inr ⟨"HummingSet", zmN 256 (by decide +kernel) rfl⟩
set_option maxRecDepth 100000 in
theorem zca61 : zcal 61 1 := ⟨by decide +kernel, zcw61, by decide +kernel, by decide +kernel, zmW (w := Cond.initialized "HummingSet$Wireless") 9 (by decide +kernel) rfl⟩
set_option maxRecDepth 100000 in
theorem zin61 : Cond.instanceMethod (zy 61) ∈ zWS := zmW (w := Cond.instanceMethod zy61) 570 (by decide +kernel) rfl
set_option maxRecDepth 100000 in
theorem zse61 : Cond.selects zC10 (zy 61) (zy 61) ∈ zWS := zmS (w := Cond.selects zC10 zy61 zy61) 34 (by decide +kernel) rfl
set_option maxRecDepth 100000 in
theorem zmk_HummingSet_Wireless_119 : zmm "HummingSet$Wireless" 119 zy61 := Or.inl (zmW 568 (by decide +kernel) rfl)
set_option maxRecDepth 100000 in
theorem zca62 : zcal 62 1 := ⟨by decide +kernel, zcw62, by decide +kernel, by decide +kernel, zmW (w := Cond.initialized "HummingSet$Wireless") 9 (by decide +kernel) rfl⟩
set_option maxRecDepth 100000 in
theorem zin62 : Cond.instanceMethod (zy 62) ∈ zWS := zmW (w := Cond.instanceMethod zy62) 574 (by decide +kernel) rfl
set_option maxRecDepth 100000 in
theorem zse62 : Cond.selects zC10 (zy 62) (zy 62) ∈ zWS := zmS (w := Cond.selects zC10 zy62 zy62) 35 (by decide +kernel) rfl
set_option maxRecDepth 100000 in
theorem zmk_HummingSet_Wireless_122 : zmm "HummingSet$Wireless" 122 zy62 := Or.inl (zmW 572 (by decide +kernel) rfl)
set_option maxRecDepth 100000 in
theorem zca20 : zcal 20 0 := ⟨by decide +kernel, zcw20, by decide +kernel, by decide +kernel, zmW (w := Cond.initialized "HummingSet$Part") 11 (by decide +kernel) rfl⟩
set_option maxRecDepth 100000 in
theorem zin20 : Cond.instanceMethod (zy 20) ∈ zWS := zmW (w := Cond.instanceMethod zy20) 601 (by decide +kernel) rfl
set_option maxRecDepth 100000 in
theorem zse20 : Cond.selects zC3 (zy 20) (zy 20) ∈ zWS := zmS (w := Cond.selects zC3 zy20 zy20) 39 (by decide +kernel) rfl
set_option maxRecDepth 100000 in
theorem zmk_HummingSet_Wireless_125 : zmm "HummingSet$Wireless" 125 zy20 := Or.inr ⟨"HummingSet", zmN 599 (by decide +kernel) rfl⟩
set_option maxRecDepth 100000 in
theorem zmaL_mmax_HummingSet_Wireless_129 : Cond.methodLink "HummingSet$Wireless" 129 Lib.Math.max.name ∈ zWS := zmW 603 (by decide +kernel) rfl
set_option maxRecDepth 100000 in
theorem zca67 : zcal 67 1 := ⟨by decide +kernel, zcw67, by decide +kernel, by decide +kernel, zmW (w := Cond.initialized "HummingSet$Wireless") 9 (by decide +kernel) rfl⟩
set_option maxRecDepth 100000 in
theorem zin67 : Cond.instanceMethod (zy 67) ∈ zWS := zmW (w := Cond.instanceMethod zy67) 718 (by decide +kernel) rfl
set_option maxRecDepth 100000 in
theorem zse67 : Cond.selects zC10 (zy 67) (zy 67) ∈ zWS := zmS (w := Cond.selects zC10 zy67 zy67) 53 (by decide +kernel) rfl
set_option maxRecDepth 100000 in
theorem zmk_HummingSet_Wireless_135 : zmm "HummingSet$Wireless" 135 zy67 := Or.inl (zmW 716 (by decide +kernel) rfl)
set_option maxRecDepth 100000 in
theorem zmaL_mmin_HummingSet_Wireless_144 : Cond.methodLink "HummingSet$Wireless" 144 Lib.Math.min.name ∈ zWS := zmW 731 (by decide +kernel) rfl
set_option maxRecDepth 100000 in
theorem zmk_HummingSet_93 : zmm "HummingSet" 93 zy100 := Or.inl (zmW 335 (by decide +kernel) rfl)
set_option maxRecDepth 100000 in
theorem zfk_HummingSet_10 : zfm "HummingSet" 10 "HummingSet" "text" "LHummingSet$Text;" := Or.inl (zmW 404 (by decide +kernel) rfl)
set_option maxRecDepth 100000 in
theorem zca40 : zcal 40 1 := ⟨by decide +kernel, zcw40, by decide +kernel, by decide +kernel, zmW (w := Cond.initialized "HummingSet$Text") 2 (by decide +kernel) rfl⟩
set_option maxRecDepth 100000 in
theorem zin40 : Cond.instanceMethod (zy 40) ∈ zWS := zmW (w := Cond.instanceMethod zy40) 447 (by decide +kernel) rfl
set_option maxRecDepth 100000 in
theorem zse40 : Cond.selects zC8 (zy 40) (zy 40) ∈ zWS := zmS (w := Cond.selects zC8 zy40 zy40) 17 (by decide +kernel) rfl
set_option maxRecDepth 100000 in
theorem zmk_HummingSet_96 : zmm "HummingSet" 96 zy40 := Or.inr ⟨"HummingSet", zmN 445 (by decide +kernel) rfl⟩
set_option maxRecDepth 100000 in
theorem zca41 : zcal 41 2 := ⟨by decide +kernel, zcw41, by decide +kernel, by decide +kernel, zmW (w := Cond.initialized "HummingSet$Text") 2 (by decide +kernel) rfl⟩
set_option maxRecDepth 100000 in
theorem zin41 : Cond.instanceMethod (zy 41) ∈ zWS := zmW (w := Cond.instanceMethod zy41) 451 (by decide +kernel) rfl
set_option maxRecDepth 100000 in
theorem zse41 : Cond.selects zC8 (zy 41) (zy 41) ∈ zWS := zmS (w := Cond.selects zC8 zy41 zy41) 18 (by decide +kernel) rfl
set_option maxRecDepth 100000 in
theorem zmk_HummingSet_100 : zmm "HummingSet" 100 zy41 := Or.inr ⟨"HummingSet", zmN 449 (by decide +kernel) rfl⟩
set_option maxRecDepth 100000 in
theorem zfk_HummingSet_104 : zfm "HummingSet" 104 "HummingSet$Text" "length" "I" := Or.inr ⟨"HummingSet", zmN 33 (by decide +kernel) rfl⟩
set_option maxRecDepth 100000 in
theorem zfk_HummingSet_19 : zfm "HummingSet" 19 "HummingSet" "reader" "LHummingSet$Reader;" := Or.inl (zmW 405 (by decide +kernel) rfl)
set_option maxRecDepth 100000 in
theorem zfk_HummingSet_71 : zfm "HummingSet" 71 "HummingSet" "spare" "LHummingSet$Wireless;" := Or.inl (zmW 414 (by decide +kernel) rfl)
set_option maxRecDepth 100000 in
theorem zca28 : zcal 28 2 := ⟨by decide +kernel, zcw28, by decide +kernel, by decide +kernel, zmW (w := Cond.initialized "HummingSet$Reader") 3 (by decide +kernel) rfl⟩
set_option maxRecDepth 100000 in
theorem zin28 : Cond.instanceMethod (zy 28) ∈ zWS := zmW (w := Cond.instanceMethod zy28) 463 (by decide +kernel) rfl
set_option maxRecDepth 100000 in
theorem zse28 : Cond.selects zC5 (zy 28) (zy 28) ∈ zWS := zmS (w := Cond.selects zC5 zy28 zy28) 19 (by decide +kernel) rfl
set_option maxRecDepth 100000 in
theorem zmk_HummingSet_108 : zmm "HummingSet" 108 zy28 := Or.inr ⟨"HummingSet", zmN 461 (by decide +kernel) rfl⟩
set_option maxRecDepth 100000 in
theorem zfk_HummingSet_112 : zfm "HummingSet" 112 "HummingSet$Wireless" "stageCount" "I" := Or.inr ⟨"HummingSet", zmN 280 (by decide +kernel) rfl⟩
set_option maxRecDepth 100000 in
theorem zfk_HummingSet_115 : zfm "HummingSet" 115 "HummingSet$Wireless" "partCount" "I" := Or.inr ⟨"HummingSet", zmN 284 (by decide +kernel) rfl⟩
set_option maxRecDepth 100000 in
theorem zfk_HummingSet_67 : zfm "HummingSet" 67 "HummingSet" "laid" "LHummingSet$Wireless;" := Or.inl (zmW 413 (by decide +kernel) rfl)
set_option maxRecDepth 100000 in
theorem zfk_HummingSet_33 : zfm "HummingSet" 33 "HummingSet" "answers" "LHummingSet$Answers;" := Or.inl (zmW 407 (by decide +kernel) rfl)
set_option maxRecDepth 100000 in
theorem zfk_HummingSet_118 : zfm "HummingSet" 118 "HummingSet$Answers" "count" "I" := Or.inr ⟨"HummingSet", zmN 87 (by decide +kernel) rfl⟩
set_option maxRecDepth 100000 in
theorem zfk_HummingSet_121 : zfm "HummingSet" 121 "HummingSet" "kept" "I" := Or.inl (zmW 415 (by decide +kernel) rfl)
set_option maxRecDepth 100000 in
theorem zfk_HummingSet_60 : zfm "HummingSet" 60 "HummingSet" "plan" "LHummingSet$Plan;" := Or.inl (zmW 412 (by decide +kernel) rfl)
set_option maxRecDepth 100000 in
theorem zfk_HummingSet_26 : zfm "HummingSet" 26 "HummingSet" "bench" "LHummingSet$Bench;" := Or.inl (zmW 406 (by decide +kernel) rfl)
set_option maxRecDepth 100000 in
theorem zca22 : zcal 22 2 := ⟨by decide +kernel, zcw22, by decide +kernel, by decide +kernel, zmW (w := Cond.initialized "HummingSet$Plan") 8 (by decide +kernel) rfl⟩
set_option maxRecDepth 100000 in
theorem zin22 : Cond.instanceMethod (zy 22) ∈ zWS := zmW (w := Cond.instanceMethod zy22) 338 (by decide +kernel) rfl
set_option maxRecDepth 100000 in
theorem zse22 : Cond.selects zC4 (zy 22) (zy 22) ∈ zWS := zmS (w := Cond.selects zC4 zy22 zy22) 6 (by decide +kernel) rfl
set_option maxRecDepth 100000 in
theorem zmk_HummingSet_86 : zmm "HummingSet" 86 zy22 := Or.inr ⟨"HummingSet", zmN 336 (by decide +kernel) rfl⟩
set_option maxRecDepth 100000 in
theorem zca98 : zcal 98 0 := ⟨by decide +kernel, zcw98, by decide +kernel, by decide +kernel, zmW (w := Cond.initialized "HummingSet") 1 (by decide +kernel) rfl⟩
set_option maxRecDepth 100000 in
theorem zin98 : Cond.instanceMethod (zy 98) ∈ zWS := zmW (w := Cond.instanceMethod zy98) 368 (by decide +kernel) rfl
set_option maxRecDepth 100000 in
theorem zse98 : Cond.selects zC11 (zy 98) (zy 98) ∈ zWS := zmS (w := Cond.selects zC11 zy98 zy98) 11 (by decide +kernel) rfl
set_option maxRecDepth 100000 in
theorem zmk_HummingSet_90 : zmm "HummingSet" 90 zy98 := Or.inl (zmW 366 (by decide +kernel) rfl)
set_option maxRecDepth 100000 in
theorem zmk_HummingSet_124 : zmm "HummingSet" 124 zy47 := Or.inr ⟨"HummingSet", zmN 521 (by decide +kernel) rfl⟩
set_option maxRecDepth 100000 in
theorem zfk_HummingSet_127 : zfm "HummingSet" 127 "HummingSet$Wireless" "parts" "[LHummingSet$Part;" := Or.inr ⟨"HummingSet", zmN 272 (by decide +kernel) rfl⟩
set_option maxRecDepth 100000 in
theorem zfk_HummingSet_131 : zfm "HummingSet" 131 "HummingSet$Part" "stage" "I" := Or.inr ⟨"HummingSet", zmN 211 (by decide +kernel) rfl⟩
set_option maxRecDepth 100000 in
theorem zfk_HummingSet_136 : zfm "HummingSet" 136 "HummingSet$Part" "kind" "I" := Or.inr ⟨"HummingSet", zmN 213 (by decide +kernel) rfl⟩
set_option maxRecDepth 100000 in
theorem zfk_HummingSet_139 : zfm "HummingSet" 139 "HummingSet$Part" "age" "I" := Or.inr ⟨"HummingSet", zmN 216 (by decide +kernel) rfl⟩
set_option maxRecDepth 100000 in
theorem zfk_HummingSet_142 : zfm "HummingSet" 142 "HummingSet$Part" "trouble" "I" := Or.inr ⟨"HummingSet", zmN 218 (by decide +kernel) rfl⟩
set_option maxRecDepth 100000 in
theorem zfk_HummingSet_145 : zfm "HummingSet" 145 "HummingSet$Part" "warm" "I" := Or.inr ⟨"HummingSet", zmN 221 (by decide +kernel) rfl⟩
set_option maxRecDepth 100000 in
theorem zfk_HummingSet_148 : zfm "HummingSet" 148 "HummingSet$Part" "cost" "I" := Or.inr ⟨"HummingSet", zmN 224 (by decide +kernel) rfl⟩
set_option maxRecDepth 100000 in
theorem zmk_HummingSet_151 : zmm "HummingSet" 151 zy48 := Or.inr ⟨"HummingSet", zmN 526 (by decide +kernel) rfl⟩
set_option maxRecDepth 100000 in
theorem zmk_HummingSet_154 : zmm "HummingSet" 154 zy101 := Or.inl (zmW 527 (by decide +kernel) rfl)
set_option maxRecDepth 100000 in
theorem zca102 : zcal 102 1 := ⟨by decide +kernel, zcw102, by decide +kernel, by decide +kernel, zmW (w := Cond.initialized "HummingSet") 1 (by decide +kernel) rfl⟩
set_option maxRecDepth 100000 in
theorem zst102 : Cond.static (zy 102) ∈ zWS := zmW (w := Cond.static zy102) 529 (by decide +kernel) rfl
set_option maxRecDepth 100000 in
theorem zmk_HummingSet_157 : zmm "HummingSet" 157 zy102 := Or.inl (zmW 528 (by decide +kernel) rfl)
set_option maxRecDepth 100000 in
theorem zmk_HummingSet_161 : zmm "HummingSet" 161 zy4 := Or.inr ⟨"HummingSet", zmN 532 (by decide +kernel) rfl⟩
set_option maxRecDepth 100000 in
theorem zfk_HummingSet_165 : zfm "HummingSet" 165 "HummingSet$Bench" "ends" "[I" := Or.inr ⟨"HummingSet", zmN 65 (by decide +kernel) rfl⟩
set_option maxRecDepth 100000 in
theorem zmk_HummingSet_169 : zmm "HummingSet" 169 zy46 := Or.inr ⟨"HummingSet", zmN 537 (by decide +kernel) rfl⟩
set_option maxRecDepth 100000 in
theorem zfk_HummingSet_172 : zfm "HummingSet" 172 "HummingSet$Bench" "ins" "[[I" := Or.inr ⟨"HummingSet", zmN 63 (by decide +kernel) rfl⟩
set_option maxRecDepth 100000 in
theorem zmk_HummingSet_176 : zmm "HummingSet" 176 zy6 := Or.inr ⟨"HummingSet", zmN 542 (by decide +kernel) rfl⟩
set_option maxRecDepth 100000 in
theorem zca7 : zcal 7 0 := ⟨by decide +kernel, zcw7, by decide +kernel, by decide +kernel, zmW (w := Cond.initialized "HummingSet$Bench") 4 (by decide +kernel) rfl⟩
set_option maxRecDepth 100000 in
theorem zin7 : Cond.instanceMethod (zy 7) ∈ zWS := zmW (w := Cond.instanceMethod zy7) 545 (by decide +kernel) rfl
set_option maxRecDepth 100000 in
theorem zse7 : Cond.selects zC1 (zy 7) (zy 7) ∈ zWS := zmS (w := Cond.selects zC1 zy7 zy7) 30 (by decide +kernel) rfl
set_option maxRecDepth 100000 in
theorem zmk_HummingSet_180 : zmm "HummingSet" 180 zy7 := Or.inr ⟨"HummingSet", zmN 543 (by decide +kernel) rfl⟩
set_option maxRecDepth 100000 in
theorem zca49 : zcal 49 2 := ⟨by decide +kernel, zcw49, by decide +kernel, by decide +kernel, zmW (w := Cond.initialized "HummingSet$Wireless") 9 (by decide +kernel) rfl⟩
set_option maxRecDepth 100000 in
theorem zin49 : Cond.instanceMethod (zy 49) ∈ zWS := zmW (w := Cond.instanceMethod zy49) 553 (by decide +kernel) rfl
set_option maxRecDepth 100000 in
theorem zse49 : Cond.selects zC10 (zy 49) (zy 49) ∈ zWS := zmS (w := Cond.selects zC10 zy49 zy49) 31 (by decide +kernel) rfl
set_option maxRecDepth 100000 in
theorem zmk_HummingSet_184 : zmm "HummingSet" 184 zy49 := Or.inr ⟨"HummingSet", zmN 551 (by decide +kernel) rfl⟩
set_option maxRecDepth 100000 in
theorem zmk_HummingSet_187 : zmm "HummingSet" 187 zy9 := Or.inr ⟨"HummingSet", zmN 559 (by decide +kernel) rfl⟩
set_option maxRecDepth 100000 in
theorem zmk_HummingSet_191 : zmm "HummingSet" 191 zy60 := Or.inr ⟨"HummingSet", zmN 564 (by decide +kernel) rfl⟩
set_option maxRecDepth 100000 in
theorem zca19 : zcal 19 1 := ⟨by decide +kernel, zcw19, by decide +kernel, by decide +kernel, zmW (w := Cond.initialized "HummingSet$Part") 11 (by decide +kernel) rfl⟩
set_option maxRecDepth 100000 in
theorem zin19 : Cond.instanceMethod (zy 19) ∈ zWS := zmW (w := Cond.instanceMethod zy19) 582 (by decide +kernel) rfl
set_option maxRecDepth 100000 in
theorem zse19 : Cond.selects zC3 (zy 19) (zy 19) ∈ zWS := zmS (w := Cond.selects zC3 zy19 zy19) 36 (by decide +kernel) rfl
set_option maxRecDepth 100000 in
theorem zmk_HummingSet_195 : zmm "HummingSet" 195 zy19 := Or.inr ⟨"HummingSet", zmN 580 (by decide +kernel) rfl⟩
set_option maxRecDepth 100000 in
theorem zca63 : zcal 63 0 := ⟨by decide +kernel, zcw63, by decide +kernel, by decide +kernel, zmW (w := Cond.initialized "HummingSet$Wireless") 9 (by decide +kernel) rfl⟩
set_option maxRecDepth 100000 in
theorem zin63 : Cond.instanceMethod (zy 63) ∈ zWS := zmW (w := Cond.instanceMethod zy63) 597 (by decide +kernel) rfl
set_option maxRecDepth 100000 in
theorem zse63 : Cond.selects zC10 (zy 63) (zy 63) ∈ zWS := zmS (w := Cond.selects zC10 zy63 zy63) 38 (by decide +kernel) rfl
set_option maxRecDepth 100000 in
theorem zmk_HummingSet_199 : zmm "HummingSet" 199 zy63 := Or.inr ⟨"HummingSet", zmN 595 (by decide +kernel) rfl⟩
set_option maxRecDepth 100000 in
theorem zmk_HummingSet_202 : zmm "HummingSet" 202 zy1 := Or.inr ⟨"HummingSet", zmN 608 (by decide +kernel) rfl⟩
set_option maxRecDepth 100000 in
theorem zfk_HummingSet_46 : zfm "HummingSet" 46 "HummingSet" "cases" "LHummingSet$Cases;" := Or.inl (zmW 410 (by decide +kernel) rfl)
set_option maxRecDepth 100000 in
theorem zca14 : zcal 14 4 := ⟨by decide +kernel, zcw14, by decide +kernel, by decide +kernel, zmW (w := Cond.initialized "HummingSet$Cases") 6 (by decide +kernel) rfl⟩
set_option maxRecDepth 100000 in
theorem zin14 : Cond.instanceMethod (zy 14) ∈ zWS := zmW (w := Cond.instanceMethod zy14) 386 (by decide +kernel) rfl
set_option maxRecDepth 100000 in
theorem zse14 : Cond.selects zC2 (zy 14) (zy 14) ∈ zWS := zmS (w := Cond.selects zC2 zy14 zy14) 15 (by decide +kernel) rfl
set_option maxRecDepth 100000 in
theorem zmk_HummingSet_206 : zmm "HummingSet" 206 zy14 := Or.inr ⟨"HummingSet", zmN 384 (by decide +kernel) rfl⟩
set_option maxRecDepth 100000 in
theorem zfk_HummingSet_212 : zfm "HummingSet" 212 "HummingSet$Cases" "count" "I" := Or.inr ⟨"HummingSet", zmN 114 (by decide +kernel) rfl⟩
set_option maxRecDepth 100000 in
theorem zfk_HummingSet_213 : zfm "HummingSet" 213 "HummingSet$Cases" "total" "J" := Or.inr ⟨"HummingSet", zmN 117 (by decide +kernel) rfl⟩
set_option maxRecDepth 100000 in
theorem zca15 : zcal 15 1 := ⟨by decide +kernel, zcw15, by decide +kernel, by decide +kernel, zmW (w := Cond.initialized "HummingSet$Cases") 6 (by decide +kernel) rfl⟩
set_option maxRecDepth 100000 in
theorem zin15 : Cond.instanceMethod (zy 15) ∈ zWS := zmW (w := Cond.instanceMethod zy15) 628 (by decide +kernel) rfl
set_option maxRecDepth 100000 in
theorem zse15 : Cond.selects zC2 (zy 15) (zy 15) ∈ zWS := zmS (w := Cond.selects zC2 zy15 zy15) 41 (by decide +kernel) rfl
set_option maxRecDepth 100000 in
theorem zmk_HummingSet_219 : zmm "HummingSet" 219 zy15 := Or.inr ⟨"HummingSet", zmN 626 (by decide +kernel) rfl⟩
set_option maxRecDepth 100000 in
theorem zca103 : zcal 103 2 := ⟨by decide +kernel, zcw103, by decide +kernel, by decide +kernel, zmW (w := Cond.initialized "HummingSet") 1 (by decide +kernel) rfl⟩
set_option maxRecDepth 100000 in
theorem zst103 : Cond.static (zy 103) ∈ zWS := zmW (w := Cond.static zy103) 631 (by decide +kernel) rfl
set_option maxRecDepth 100000 in
theorem zmk_HummingSet_223 : zmm "HummingSet" 223 zy103 := Or.inl (zmW 630 (by decide +kernel) rfl)
set_option maxRecDepth 100000 in
theorem zca16 : zcal 16 0 := ⟨by decide +kernel, zcw16, by decide +kernel, by decide +kernel, zmW (w := Cond.initialized "HummingSet$Cases") 6 (by decide +kernel) rfl⟩
set_option maxRecDepth 100000 in
theorem zin16 : Cond.instanceMethod (zy 16) ∈ zWS := zmW (w := Cond.instanceMethod zy16) 639 (by decide +kernel) rfl
set_option maxRecDepth 100000 in
theorem zse16 : Cond.selects zC2 (zy 16) (zy 16) ∈ zWS := zmS (w := Cond.selects zC2 zy16 zy16) 42 (by decide +kernel) rfl
set_option maxRecDepth 100000 in
theorem zmk_HummingSet_227 : zmm "HummingSet" 227 zy16 := Or.inr ⟨"HummingSet", zmN 637 (by decide +kernel) rfl⟩
set_option maxRecDepth 100000 in
theorem zfk_HummingSet_53 : zfm "HummingSet" 53 "HummingSet" "search" "LHummingSet$Search;" := Or.inl (zmW 411 (by decide +kernel) rfl)
set_option maxRecDepth 100000 in
theorem zca34 : zcal 34 4 := ⟨by decide +kernel, zcw34, by decide +kernel, by decide +kernel, zmW (w := Cond.initialized "HummingSet$Search") 7 (by decide +kernel) rfl⟩
set_option maxRecDepth 100000 in
theorem zin34 : Cond.instanceMethod (zy 34) ∈ zWS := zmW (w := Cond.instanceMethod zy34) 647 (by decide +kernel) rfl
set_option maxRecDepth 100000 in
theorem zse34 : Cond.selects zC6 (zy 34) (zy 34) ∈ zWS := zmS (w := Cond.selects zC6 zy34 zy34) 43 (by decide +kernel) rfl
set_option maxRecDepth 100000 in
theorem zmk_HummingSet_230 : zmm "HummingSet" 230 zy34 := Or.inr ⟨"HummingSet", zmN 645 (by decide +kernel) rfl⟩
set_option maxRecDepth 100000 in
theorem zfk_HummingSet_234 : zfm "HummingSet" 234 "HummingSet$Search" "kind" "I" := Or.inr ⟨"HummingSet", zmN 136 (by decide +kernel) rfl⟩
set_option maxRecDepth 100000 in
theorem zfk_HummingSet_235 : zfm "HummingSet" 235 "HummingSet$Search" "of" "I" := Or.inr ⟨"HummingSet", zmN 138 (by decide +kernel) rfl⟩
set_option maxRecDepth 100000 in
theorem zfk_HummingSet_238 : zfm "HummingSet" 238 "HummingSet$Search" "weight" "J" := Or.inr ⟨"HummingSet", zmN 140 (by decide +kernel) rfl⟩
set_option maxRecDepth 100000 in
theorem zca24 : zcal 24 3 := ⟨by decide +kernel, zcw24, by decide +kernel, by decide +kernel, zmW (w := Cond.initialized "HummingSet$Plan") 8 (by decide +kernel) rfl⟩
set_option maxRecDepth 100000 in
theorem zin24 : Cond.instanceMethod (zy 24) ∈ zWS := zmW (w := Cond.instanceMethod zy24) 675 (by decide +kernel) rfl
set_option maxRecDepth 100000 in
theorem zse24 : Cond.selects zC4 (zy 24) (zy 24) ∈ zWS := zmS (w := Cond.selects zC4 zy24 zy24) 46 (by decide +kernel) rfl
set_option maxRecDepth 100000 in
theorem zmk_HummingSet_241 : zmm "HummingSet" 241 zy24 := Or.inr ⟨"HummingSet", zmN 673 (by decide +kernel) rfl⟩
set_option maxRecDepth 100000 in
theorem zmk_HummingSet_245 : zmm "HummingSet" 245 zy65 := Or.inr ⟨"HummingSet", zmN 686 (by decide +kernel) rfl⟩
set_option maxRecDepth 100000 in
theorem zca25 : zcal 25 2 := ⟨by decide +kernel, zcw25, by decide +kernel, by decide +kernel, zmW (w := Cond.initialized "HummingSet$Plan") 8 (by decide +kernel) rfl⟩
set_option maxRecDepth 100000 in
theorem zin25 : Cond.instanceMethod (zy 25) ∈ zWS := zmW (w := Cond.instanceMethod zy25) 693 (by decide +kernel) rfl
set_option maxRecDepth 100000 in
theorem zse25 : Cond.selects zC4 (zy 25) (zy 25) ∈ zWS := zmS (w := Cond.selects zC4 zy25 zy25) 49 (by decide +kernel) rfl
set_option maxRecDepth 100000 in
theorem zmk_HummingSet_248 : zmm "HummingSet" 248 zy25 := Or.inr ⟨"HummingSet", zmN 691 (by decide +kernel) rfl⟩
set_option maxRecDepth 100000 in
theorem zfk_HummingSet_252 : zfm "HummingSet" 252 "HummingSet$Plan" "sums" "[J" := Or.inr ⟨"HummingSet", zmN 161 (by decide +kernel) rfl⟩
set_option maxRecDepth 100000 in
theorem zfk_HummingSet_256 : zfm "HummingSet" 256 "HummingSet$Plan" "firstPart" "I" := Or.inr ⟨"HummingSet", zmN 163 (by decide +kernel) rfl⟩
set_option maxRecDepth 100000 in
theorem zca99 : zcal 99 1 := ⟨by decide +kernel, zcw99, by decide +kernel, by decide +kernel, zmW (w := Cond.initialized "HummingSet") 1 (by decide +kernel) rfl⟩
set_option maxRecDepth 100000 in
theorem zin99 : Cond.instanceMethod (zy 99) ∈ zWS := zmW (w := Cond.instanceMethod zy99) 706 (by decide +kernel) rfl
set_option maxRecDepth 100000 in
theorem zse99 : Cond.selects zC11 (zy 99) (zy 99) ∈ zWS := zmS (w := Cond.selects zC11 zy99 zy99) 51 (by decide +kernel) rfl
set_option maxRecDepth 100000 in
theorem zmk_HummingSet_259 : zmm "HummingSet" 259 zy99 := Or.inl (zmW 704 (by decide +kernel) rfl)
set_option maxRecDepth 100000 in
theorem zca66 : zcal 66 0 := ⟨by decide +kernel, zcw66, by decide +kernel, by decide +kernel, zmW (w := Cond.initialized "HummingSet$Wireless") 9 (by decide +kernel) rfl⟩
set_option maxRecDepth 100000 in
theorem zin66 : Cond.instanceMethod (zy 66) ∈ zWS := zmW (w := Cond.instanceMethod zy66) 714 (by decide +kernel) rfl
set_option maxRecDepth 100000 in
theorem zse66 : Cond.selects zC10 (zy 66) (zy 66) ∈ zWS := zmS (w := Cond.selects zC10 zy66 zy66) 52 (by decide +kernel) rfl
set_option maxRecDepth 100000 in
theorem zmk_HummingSet_262 : zmm "HummingSet" 262 zy66 := Or.inr ⟨"HummingSet", zmN 712 (by decide +kernel) rfl⟩
set_option maxRecDepth 100000 in
theorem zca68 : zcal 68 2 := ⟨by decide +kernel, zcw68, by decide +kernel, by decide +kernel, zmW (w := Cond.initialized "HummingSet$Wireless") 9 (by decide +kernel) rfl⟩
set_option maxRecDepth 100000 in
theorem zin68 : Cond.instanceMethod (zy 68) ∈ zWS := zmW (w := Cond.instanceMethod zy68) 728 (by decide +kernel) rfl
set_option maxRecDepth 100000 in
theorem zse68 : Cond.selects zC10 (zy 68) (zy 68) ∈ zWS := zmS (w := Cond.selects zC10 zy68 zy68) 54 (by decide +kernel) rfl
set_option maxRecDepth 100000 in
theorem zmk_HummingSet_265 : zmm "HummingSet" 265 zy68 := Or.inr ⟨"HummingSet", zmN 726 (by decide +kernel) rfl⟩
set_option maxRecDepth 100000 in
theorem zfk_HummingSet_37 : zfm "HummingSet" 37 "HummingSet" "firstKept" "LHummingSet$Answers;" := Or.inl (zmW 408 (by decide +kernel) rfl)
set_option maxRecDepth 100000 in
theorem zca2 : zcal 2 1 := ⟨by decide +kernel, zcw2, by decide +kernel, by decide +kernel, zmW (w := Cond.initialized "HummingSet$Answers") 5 (by decide +kernel) rfl⟩
set_option maxRecDepth 100000 in
theorem zin2 : Cond.instanceMethod (zy 2) ∈ zWS := zmW (w := Cond.instanceMethod zy2) 750 (by decide +kernel) rfl
set_option maxRecDepth 100000 in
theorem zse2 : Cond.selects zC0 (zy 2) (zy 2) ∈ zWS := zmS (w := Cond.selects zC0 zy2 zy2) 55 (by decide +kernel) rfl
set_option maxRecDepth 100000 in
theorem zmk_HummingSet_276 : zmm "HummingSet" 276 zy2 := Or.inr ⟨"HummingSet", zmN 748 (by decide +kernel) rfl⟩
set_option maxRecDepth 100000 in
theorem zfk_HummingSet_40 : zfm "HummingSet" 40 "HummingSet" "secondKept" "LHummingSet$Answers;" := Or.inl (zmW 409 (by decide +kernel) rfl)
set_option maxRecDepth 100000 in
theorem zca12 : zcal 12 1 := ⟨by decide +kernel, zcw12, by decide +kernel, by decide +kernel, zmW (w := Cond.initialized "HummingSet$Cases") 6 (by decide +kernel) rfl⟩
set_option maxRecDepth 100000 in
theorem zin12 : Cond.instanceMethod (zy 12) ∈ zWS := zmW (w := Cond.instanceMethod zy12) 372 (by decide +kernel) rfl
set_option maxRecDepth 100000 in
theorem zse12 : Cond.selects zC2 (zy 12) (zy 12) ∈ zWS := zmS (w := Cond.selects zC2 zy12 zy12) 12 (by decide +kernel) rfl
set_option maxRecDepth 100000 in
theorem zmk_HummingSet_280 : zmm "HummingSet" 280 zy12 := Or.inr ⟨"HummingSet", zmN 370 (by decide +kernel) rfl⟩
set_option maxRecDepth 100000 in
theorem zfk_HummingSetModel_40 : zfm "HummingSetModel" 40 "HummingSetModel" "costs" "[I" := Or.inl (zmW 786 (by decide +kernel) rfl)
set_option maxRecDepth 100000 in
theorem zfk_HummingSetModel_43 : zfm "HummingSetModel" 43 "HummingSetModel" "volts0" "[I" := Or.inl (zmW 787 (by decide +kernel) rfl)
set_option maxRecDepth 100000 in
theorem zfk_HummingSetModel_46 : zfm "HummingSetModel" 46 "HummingSetModel" "losses" "[I" := Or.inl (zmW 788 (by decide +kernel) rfl)
set_option maxRecDepth 100000 in
theorem zfk_HummingSetModel_52 : zfm "HummingSetModel" 52 "HummingSetModel" "lets" "[I" := Or.inl (zmW 790 (by decide +kernel) rfl)
set_option maxRecDepth 100000 in
theorem zfk_HummingSetModel_13 : zfm "HummingSetModel" 13 "HummingSetModel" "stageMany" "[I" := Or.inl (zmW 777 (by decide +kernel) rfl)
set_option maxRecDepth 100000 in
theorem zfk_HummingSetModel_22 : zfm "HummingSetModel" 22 "HummingSetModel" "partMany" "[I" := Or.inl (zmW 780 (by decide +kernel) rfl)
set_option maxRecDepth 100000 in
theorem zfk_HummingSetModel_49 : zfm "HummingSetModel" 49 "HummingSetModel" "letsMany" "[I" := Or.inl (zmW 789 (by decide +kernel) rfl)
set_option maxRecDepth 100000 in
theorem zfk_HummingSetModel_55 : zfm "HummingSetModel" 55 "HummingSetModel" "comesMany" "[I" := Or.inl (zmW 791 (by decide +kernel) rfl)
set_option maxRecDepth 100000 in
theorem zfk_HummingSetModel_61 : zfm "HummingSetModel" 61 "HummingSetModel" "wayMany" "[I" := Or.inl (zmW 793 (by decide +kernel) rfl)
set_option maxRecDepth 100000 in
theorem zfk_HummingSetModel_58 : zfm "HummingSetModel" 58 "HummingSetModel" "comes" "[I" := Or.inl (zmW 792 (by decide +kernel) rfl)
set_option maxRecDepth 100000 in
theorem zfk_HummingSetModel_73 : zfm "HummingSetModel" 73 "HummingSetModel" "ears" "[I" := Or.inl (zmW 797 (by decide +kernel) rfl)
set_option maxRecDepth 100000 in
theorem zfk_HummingSetModel_76 : zfm "HummingSetModel" 76 "HummingSetModel" "rates" "[I" := Or.inl (zmW 798 (by decide +kernel) rfl)
set_option maxRecDepth 100000 in
theorem zca105 : zcal 105 3 := ⟨by decide +kernel, zcw105, by decide +kernel, by decide +kernel, zmW (w := Cond.initialized "HummingSetModel") 15 (by decide +kernel) rfl⟩
set_option maxRecDepth 100000 in
theorem zst105 : Cond.static (zy 105) ∈ zWS := zmW (w := Cond.static zy105) 896 (by decide +kernel) rfl
set_option maxRecDepth 100000 in
theorem zmk_HummingSetModel_122 : zmm "HummingSetModel" 122 zy105 := Or.inl (zmW 895 (by decide +kernel) rfl)
set_option maxRecDepth 100000 in
theorem zfk_HummingSetModel_126 : zfm "HummingSetModel" 126 "HummingSetModel" "length" "I" := Or.inl (zmW 775 (by decide +kernel) rfl)
set_option maxRecDepth 100000 in
theorem zfk_HummingSetModel_7 : zfm "HummingSetModel" 7 "HummingSetModel" "text" "[I" := Or.inl (zmW 776 (by decide +kernel) rfl)
set_option maxRecDepth 100000 in
theorem zfk_HummingSetModel_132 : zfm "HummingSetModel" 132 "HummingSetModel" "place" "I" := Or.inl (zmW 805 (by decide +kernel) rfl)
set_option maxRecDepth 100000 in
theorem zca112 : zcal 112 1 := ⟨by decide +kernel, zcw112, by decide +kernel, by decide +kernel, zmW (w := Cond.initialized "HummingSetModel") 15 (by decide +kernel) rfl⟩
set_option maxRecDepth 100000 in
theorem zin112 : Cond.instanceMethod (zy 112) ∈ zWS := zmW (w := Cond.instanceMethod zy112) 917 (by decide +kernel) rfl
set_option maxRecDepth 100000 in
theorem zse112 : Cond.selects zC12 (zy 112) (zy 112) ∈ zWS := zmS (w := Cond.selects zC12 zy112 zy112) 60 (by decide +kernel) rfl
set_option maxRecDepth 100000 in
theorem zmk_HummingSetModel_135 : zmm "HummingSetModel" 135 zy112 := Or.inl (zmW 915 (by decide +kernel) rfl)
set_option maxRecDepth 100000 in
theorem zfk_HummingSetModel_94 : zfm "HummingSetModel" 94 "HummingSetModel" "told" "[I" := Or.inl (zmW 806 (by decide +kernel) rfl)
set_option maxRecDepth 100000 in
theorem zca113 : zcal 113 1 := ⟨by decide +kernel, zcw113, by decide +kernel, by decide +kernel, zmW (w := Cond.initialized "HummingSetModel") 15 (by decide +kernel) rfl⟩
set_option maxRecDepth 100000 in
theorem zin113 : Cond.instanceMethod (zy 113) ∈ zWS := zmW (w := Cond.instanceMethod zy113) 925 (by decide +kernel) rfl
set_option maxRecDepth 100000 in
theorem zse113 : Cond.selects zC12 (zy 113) (zy 113) ∈ zWS := zmS (w := Cond.selects zC12 zy113 zy113) 62 (by decide +kernel) rfl
set_option maxRecDepth 100000 in
theorem zmk_HummingSetModel_145 : zmm "HummingSetModel" 145 zy113 := Or.inl (zmW 923 (by decide +kernel) rfl)
set_option maxRecDepth 100000 in
theorem zfk_HummingSetModel_16 : zfm "HummingSetModel" 16 "HummingSetModel" "gains" "[I" := Or.inl (zmW 778 (by decide +kernel) rfl)
set_option maxRecDepth 100000 in
theorem zfk_HummingSetModel_19 : zfm "HummingSetModel" 19 "HummingSetModel" "bears" "[I" := Or.inl (zmW 779 (by decide +kernel) rfl)
set_option maxRecDepth 100000 in
theorem zca115 : zcal 115 0 := ⟨by decide +kernel, zcw115, by decide +kernel, by decide +kernel, zmW (w := Cond.initialized "HummingSetModel") 15 (by decide +kernel) rfl⟩
set_option maxRecDepth 100000 in
theorem zin115 : Cond.instanceMethod (zy 115) ∈ zWS := zmW (w := Cond.instanceMethod zy115) 938 (by decide +kernel) rfl
set_option maxRecDepth 100000 in
theorem zse115 : Cond.selects zC12 (zy 115) (zy 115) ∈ zWS := zmS (w := Cond.selects zC12 zy115 zy115) 64 (by decide +kernel) rfl
set_option maxRecDepth 100000 in
theorem zmk_HummingSetModel_153 : zmm "HummingSetModel" 153 zy115 := Or.inl (zmW 936 (by decide +kernel) rfl)
set_option maxRecDepth 100000 in
theorem zfk_HummingSetModel_25 : zfm "HummingSetModel" 25 "HummingSetModel" "stageOf" "[I" := Or.inl (zmW 781 (by decide +kernel) rfl)
set_option maxRecDepth 100000 in
theorem zfk_HummingSetModel_28 : zfm "HummingSetModel" 28 "HummingSetModel" "kinds" "[I" := Or.inl (zmW 782 (by decide +kernel) rfl)
set_option maxRecDepth 100000 in
theorem zfk_HummingSetModel_31 : zfm "HummingSetModel" 31 "HummingSetModel" "ages" "[I" := Or.inl (zmW 783 (by decide +kernel) rfl)
set_option maxRecDepth 100000 in
theorem zfk_HummingSetModel_34 : zfm "HummingSetModel" 34 "HummingSetModel" "chances" "[I" := Or.inl (zmW 784 (by decide +kernel) rfl)
set_option maxRecDepth 100000 in
theorem zfk_HummingSetModel_37 : zfm "HummingSetModel" 37 "HummingSetModel" "warms" "[I" := Or.inl (zmW 785 (by decide +kernel) rfl)
set_option maxRecDepth 100000 in
theorem zca108 : zcal 108 1 := ⟨by decide +kernel, zcw108, by decide +kernel, by decide +kernel, zmW (w := Cond.initialized "HummingSetModel") 15 (by decide +kernel) rfl⟩
set_option maxRecDepth 100000 in
theorem zin108 : Cond.instanceMethod (zy 108) ∈ zWS := zmW (w := Cond.instanceMethod zy108) 773 (by decide +kernel) rfl
set_option maxRecDepth 100000 in
theorem zse108 : Cond.selects zC12 (zy 108) (zy 108) ∈ zWS := zmS (w := Cond.selects zC12 zy108 zy108) 57 (by decide +kernel) rfl
set_option maxRecDepth 100000 in
theorem zmk_HummingSetModel_117 : zmm "HummingSetModel" 117 zy108 := Or.inl (zmW 771 (by decide +kernel) rfl)
set_option maxRecDepth 100000 in
theorem zca114 : zcal 114 0 := ⟨by decide +kernel, zcw114, by decide +kernel, by decide +kernel, zmW (w := Cond.initialized "HummingSetModel") 15 (by decide +kernel) rfl⟩
set_option maxRecDepth 100000 in
theorem zin114 : Cond.instanceMethod (zy 114) ∈ zWS := zmW (w := Cond.instanceMethod zy114) 949 (by decide +kernel) rfl
set_option maxRecDepth 100000 in
theorem zse114 : Cond.selects zC12 (zy 114) (zy 114) ∈ zWS := zmS (w := Cond.selects zC12 zy114 zy114) 66 (by decide +kernel) rfl
set_option maxRecDepth 100000 in
theorem zmk_HummingSetModel_163 : zmm "HummingSetModel" 163 zy114 := Or.inl (zmW 947 (by decide +kernel) rfl)
set_option maxRecDepth 100000 in
theorem zfk_HummingSetModel_64 : zfm "HummingSetModel" 64 "HummingSetModel" "wayStage" "[I" := Or.inl (zmW 794 (by decide +kernel) rfl)
set_option maxRecDepth 100000 in
theorem zfk_HummingSetModel_67 : zfm "HummingSetModel" 67 "HummingSetModel" "wayTone" "[I" := Or.inl (zmW 795 (by decide +kernel) rfl)
set_option maxRecDepth 100000 in
theorem zfk_HummingSetModel_70 : zfm "HummingSetModel" 70 "HummingSetModel" "wayBack" "[I" := Or.inl (zmW 796 (by decide +kernel) rfl)
set_option maxRecDepth 100000 in
theorem zca116 : zcal 116 0 := ⟨by decide +kernel, zcw116, by decide +kernel, by decide +kernel, zmW (w := Cond.initialized "HummingSetModel") 15 (by decide +kernel) rfl⟩
set_option maxRecDepth 100000 in
theorem zin116 : Cond.instanceMethod (zy 116) ∈ zWS := zmW (w := Cond.instanceMethod zy116) 921 (by decide +kernel) rfl
set_option maxRecDepth 100000 in
theorem zse116 : Cond.selects zC12 (zy 116) (zy 116) ∈ zWS := zmS (w := Cond.selects zC12 zy116 zy116) 61 (by decide +kernel) rfl
set_option maxRecDepth 100000 in
theorem zmk_HummingSetModel_174 : zmm "HummingSetModel" 174 zy116 := Or.inl (zmW 919 (by decide +kernel) rfl)
set_option maxRecDepth 100000 in
theorem zca117 : zcal 117 0 := ⟨by decide +kernel, zcw117, by decide +kernel, by decide +kernel, zmW (w := Cond.initialized "HummingSetModel") 15 (by decide +kernel) rfl⟩
set_option maxRecDepth 100000 in
theorem zin117 : Cond.instanceMethod (zy 117) ∈ zWS := zmW (w := Cond.instanceMethod zy117) 934 (by decide +kernel) rfl
set_option maxRecDepth 100000 in
theorem zse117 : Cond.selects zC12 (zy 117) (zy 117) ∈ zWS := zmS (w := Cond.selects zC12 zy117 zy117) 63 (by decide +kernel) rfl
set_option maxRecDepth 100000 in
theorem zmk_HummingSetModel_177 : zmm "HummingSetModel" 177 zy117 := Or.inl (zmW 932 (by decide +kernel) rfl)
set_option maxRecDepth 100000 in
theorem zca118 : zcal 118 0 := ⟨by decide +kernel, zcw118, by decide +kernel, by decide +kernel, zmW (w := Cond.initialized "HummingSetModel") 15 (by decide +kernel) rfl⟩
set_option maxRecDepth 100000 in
theorem zin118 : Cond.instanceMethod (zy 118) ∈ zWS := zmW (w := Cond.instanceMethod zy118) 945 (by decide +kernel) rfl
set_option maxRecDepth 100000 in
theorem zse118 : Cond.selects zC12 (zy 118) (zy 118) ∈ zWS := zmS (w := Cond.selects zC12 zy118 zy118) 65 (by decide +kernel) rfl
set_option maxRecDepth 100000 in
theorem zmk_HummingSetModel_180 : zmm "HummingSetModel" 180 zy118 := Or.inl (zmW 943 (by decide +kernel) rfl)
set_option maxRecDepth 100000 in
theorem zca119 : zcal 119 0 := ⟨by decide +kernel, zcw119, by decide +kernel, by decide +kernel, zmW (w := Cond.initialized "HummingSetModel") 15 (by decide +kernel) rfl⟩
set_option maxRecDepth 100000 in
theorem zin119 : Cond.instanceMethod (zy 119) ∈ zWS := zmW (w := Cond.instanceMethod zy119) 955 (by decide +kernel) rfl
set_option maxRecDepth 100000 in
theorem zse119 : Cond.selects zC12 (zy 119) (zy 119) ∈ zWS := zmS (w := Cond.selects zC12 zy119 zy119) 67 (by decide +kernel) rfl
set_option maxRecDepth 100000 in
theorem zmk_HummingSetModel_183 : zmm "HummingSetModel" 183 zy119 := Or.inl (zmW 953 (by decide +kernel) rfl)
set_option maxRecDepth 100000 in
theorem zca120 : zcal 120 0 := ⟨by decide +kernel, zcw120, by decide +kernel, by decide +kernel, zmW (w := Cond.initialized "HummingSetModel") 15 (by decide +kernel) rfl⟩
set_option maxRecDepth 100000 in
theorem zin120 : Cond.instanceMethod (zy 120) ∈ zWS := zmW (w := Cond.instanceMethod zy120) 959 (by decide +kernel) rfl
set_option maxRecDepth 100000 in
theorem zse120 : Cond.selects zC12 (zy 120) (zy 120) ∈ zWS := zmS (w := Cond.selects zC12 zy120 zy120) 68 (by decide +kernel) rfl
set_option maxRecDepth 100000 in
theorem zmk_HummingSetModel_186 : zmm "HummingSetModel" 186 zy120 := Or.inl (zmW 957 (by decide +kernel) rfl)
set_option maxRecDepth 100000 in
theorem zca109 : zcal 109 1 := ⟨by decide +kernel, zcw109, by decide +kernel, by decide +kernel, zmW (w := Cond.initialized "HummingSetModel") 15 (by decide +kernel) rfl⟩
set_option maxRecDepth 100000 in
theorem zin109 : Cond.instanceMethod (zy 109) ∈ zWS := zmW (w := Cond.instanceMethod zy109) 769 (by decide +kernel) rfl
set_option maxRecDepth 100000 in
theorem zse109 : Cond.selects zC12 (zy 109) (zy 109) ∈ zWS := zmS (w := Cond.selects zC12 zy109 zy109) 56 (by decide +kernel) rfl
set_option maxRecDepth 100000 in
theorem zmk_HummingSetModel_113 : zmm "HummingSetModel" 113 zy109 := Or.inl (zmW 767 (by decide +kernel) rfl)
set_option maxRecDepth 100000 in
theorem zca121 : zcal 121 0 := ⟨by decide +kernel, zcw121, by decide +kernel, by decide +kernel, zmW (w := Cond.initialized "HummingSetModel") 15 (by decide +kernel) rfl⟩
set_option maxRecDepth 100000 in
theorem zin121 : Cond.instanceMethod (zy 121) ∈ zWS := zmW (w := Cond.instanceMethod zy121) 913 (by decide +kernel) rfl
set_option maxRecDepth 100000 in
theorem zse121 : Cond.selects zC12 (zy 121) (zy 121) ∈ zWS := zmS (w := Cond.selects zC12 zy121 zy121) 59 (by decide +kernel) rfl
set_option maxRecDepth 100000 in
theorem zmk_HummingSetModel_193 : zmm "HummingSetModel" 193 zy121 := Or.inl (zmW 911 (by decide +kernel) rfl)
set_option maxRecDepth 100000 in
theorem zca122 : zcal 122 0 := ⟨by decide +kernel, zcw122, by decide +kernel, by decide +kernel, zmW (w := Cond.initialized "HummingSetModel") 15 (by decide +kernel) rfl⟩
set_option maxRecDepth 100000 in
theorem zin122 : Cond.instanceMethod (zy 122) ∈ zWS := zmW (w := Cond.instanceMethod zy122) 909 (by decide +kernel) rfl
set_option maxRecDepth 100000 in
theorem zse122 : Cond.selects zC12 (zy 122) (zy 122) ∈ zWS := zmS (w := Cond.selects zC12 zy122 zy122) 58 (by decide +kernel) rfl
set_option maxRecDepth 100000 in
theorem zmk_HummingSetModel_196 : zmm "HummingSetModel" 196 zy122 := Or.inl (zmW 907 (by decide +kernel) rfl)
set_option maxRecDepth 100000 in
theorem zfk_HummingSetModel_79 : zfm "HummingSetModel" 79 "HummingSetModel" "answerMany" "[I" := Or.inl (zmW 799 (by decide +kernel) rfl)
set_option maxRecDepth 100000 in
theorem zfk_HummingSetModel_200 : zfm "HummingSetModel" 200 "HummingSetModel" "keptMany" "I" := Or.inl (zmW 804 (by decide +kernel) rfl)
set_option maxRecDepth 100000 in
theorem zca126 : zcal 126 1 := ⟨by decide +kernel, zcw126, by decide +kernel, by decide +kernel, zmW (w := Cond.initialized "HummingSetModel") 15 (by decide +kernel) rfl⟩
set_option maxRecDepth 100000 in
theorem zin126 : Cond.instanceMethod (zy 126) ∈ zWS := zmW (w := Cond.instanceMethod zy126) 975 (by decide +kernel) rfl
set_option maxRecDepth 100000 in
theorem zse126 : Cond.selects zC12 (zy 126) (zy 126) ∈ zWS := zmS (w := Cond.selects zC12 zy126 zy126) 69 (by decide +kernel) rfl
set_option maxRecDepth 100000 in
theorem zmk_HummingSetModel_203 : zmm "HummingSetModel" 203 zy126 := Or.inl (zmW 973 (by decide +kernel) rfl)
set_option maxRecDepth 100000 in
theorem zca106 : zcal 106 2 := ⟨by decide +kernel, zcw106, by decide +kernel, by decide +kernel, zmW (w := Cond.initialized "HummingSetModel") 15 (by decide +kernel) rfl⟩
set_option maxRecDepth 100000 in
theorem zst106 : Cond.static (zy 106) ∈ zWS := zmW (w := Cond.static zy106) 998 (by decide +kernel) rfl
set_option maxRecDepth 100000 in
theorem zmk_HummingSetModel_208 : zmm "HummingSetModel" 208 zy106 := Or.inl (zmW 997 (by decide +kernel) rfl)
set_option maxRecDepth 100000 in
theorem zca130 : zcal 130 6 := ⟨by decide +kernel, zcw130, by decide +kernel, by decide +kernel, zmW (w := Cond.initialized "HummingSetModel") 15 (by decide +kernel) rfl⟩
set_option maxRecDepth 100000 in
theorem zin130 : Cond.instanceMethod (zy 130) ∈ zWS := zmW (w := Cond.instanceMethod zy130) 995 (by decide +kernel) rfl
set_option maxRecDepth 100000 in
theorem zse130 : Cond.selects zC12 (zy 130) (zy 130) ∈ zWS := zmS (w := Cond.selects zC12 zy130 zy130) 72 (by decide +kernel) rfl
set_option maxRecDepth 100000 in
theorem zmk_HummingSetModel_212 : zmm "HummingSetModel" 212 zy130 := Or.inl (zmW 993 (by decide +kernel) rfl)
set_option maxRecDepth 100000 in
theorem zca131 : zcal 131 5 := ⟨by decide +kernel, zcw131, by decide +kernel, by decide +kernel, zmW (w := Cond.initialized "HummingSetModel") 15 (by decide +kernel) rfl⟩
set_option maxRecDepth 100000 in
theorem zin131 : Cond.instanceMethod (zy 131) ∈ zWS := zmW (w := Cond.instanceMethod zy131) 991 (by decide +kernel) rfl
set_option maxRecDepth 100000 in
theorem zse131 : Cond.selects zC12 (zy 131) (zy 131) ∈ zWS := zmS (w := Cond.selects zC12 zy131 zy131) 71 (by decide +kernel) rfl
set_option maxRecDepth 100000 in
theorem zmk_HummingSetModel_216 : zmm "HummingSetModel" 216 zy131 := Or.inl (zmW 989 (by decide +kernel) rfl)
set_option maxRecDepth 100000 in
theorem zca107 : zcal 107 1 := ⟨by decide +kernel, zcw107, by decide +kernel, by decide +kernel, zmW (w := Cond.initialized "HummingSetModel") 15 (by decide +kernel) rfl⟩
set_option maxRecDepth 100000 in
theorem zst107 : Cond.static (zy 107) ∈ zWS := zmW (w := Cond.static zy107) 1018 (by decide +kernel) rfl
set_option maxRecDepth 100000 in
theorem zmk_HummingSetModel_220 : zmm "HummingSetModel" 220 zy107 := Or.inl (zmW 1017 (by decide +kernel) rfl)
set_option maxRecDepth 100000 in
theorem zca127 : zcal 127 1 := ⟨by decide +kernel, zcw127, by decide +kernel, by decide +kernel, zmW (w := Cond.initialized "HummingSetModel") 15 (by decide +kernel) rfl⟩
set_option maxRecDepth 100000 in
theorem zin127 : Cond.instanceMethod (zy 127) ∈ zWS := zmW (w := Cond.instanceMethod zy127) 984 (by decide +kernel) rfl
set_option maxRecDepth 100000 in
theorem zse127 : Cond.selects zC12 (zy 127) (zy 127) ∈ zWS := zmS (w := Cond.selects zC12 zy127 zy127) 70 (by decide +kernel) rfl
set_option maxRecDepth 100000 in
theorem zmk_HummingSetModel_223 : zmm "HummingSetModel" 223 zy127 := Or.inl (zmW 982 (by decide +kernel) rfl)
set_option maxRecDepth 100000 in
theorem zca128 : zcal 128 1 := ⟨by decide +kernel, zcw128, by decide +kernel, by decide +kernel, zmW (w := Cond.initialized "HummingSetModel") 15 (by decide +kernel) rfl⟩
set_option maxRecDepth 100000 in
theorem zst128 : Cond.static (zy 128) ∈ zWS := zmW (w := Cond.static zy128) 987 (by decide +kernel) rfl
set_option maxRecDepth 100000 in
theorem zmk_HummingSetModel_226 : zmm "HummingSetModel" 226 zy128 := Or.inl (zmW 986 (by decide +kernel) rfl)
set_option maxRecDepth 100000 in
theorem zca125 : zcal 125 1 := ⟨by decide +kernel, zcw125, by decide +kernel, by decide +kernel, zmW (w := Cond.initialized "HummingSetModel") 15 (by decide +kernel) rfl⟩
set_option maxRecDepth 100000 in
theorem zin125 : Cond.instanceMethod (zy 125) ∈ zWS := zmW (w := Cond.instanceMethod zy125) 1007 (by decide +kernel) rfl
set_option maxRecDepth 100000 in
theorem zse125 : Cond.selects zC12 (zy 125) (zy 125) ∈ zWS := zmS (w := Cond.selects zC12 zy125 zy125) 73 (by decide +kernel) rfl
set_option maxRecDepth 100000 in
theorem zmk_HummingSetModel_230 : zmm "HummingSetModel" 230 zy125 := Or.inl (zmW 1005 (by decide +kernel) rfl)
set_option maxRecDepth 100000 in
theorem zca132 : zcal 132 4 := ⟨by decide +kernel, zcw132, by decide +kernel, by decide +kernel, zmW (w := Cond.initialized "HummingSetModel") 15 (by decide +kernel) rfl⟩
set_option maxRecDepth 100000 in
theorem zin132 : Cond.instanceMethod (zy 132) ∈ zWS := zmW (w := Cond.instanceMethod zy132) 1015 (by decide +kernel) rfl
set_option maxRecDepth 100000 in
theorem zse132 : Cond.selects zC12 (zy 132) (zy 132) ∈ zWS := zmS (w := Cond.selects zC12 zy132 zy132) 74 (by decide +kernel) rfl
set_option maxRecDepth 100000 in
theorem zmk_HummingSetModel_233 : zmm "HummingSetModel" 233 zy132 := Or.inl (zmW 1013 (by decide +kernel) rfl)
set_option maxRecDepth 100000 in
theorem zca137 : zcal 137 2 := ⟨by decide +kernel, zcw137, by decide +kernel, by decide +kernel, zmW (w := Cond.initialized "HummingSetModel") 15 (by decide +kernel) rfl⟩
set_option maxRecDepth 100000 in
theorem zin137 : Cond.instanceMethod (zy 137) ∈ zWS := zmW (w := Cond.instanceMethod zy137) 1026 (by decide +kernel) rfl
set_option maxRecDepth 100000 in
theorem zse137 : Cond.selects zC12 (zy 137) (zy 137) ∈ zWS := zmS (w := Cond.selects zC12 zy137 zy137) 75 (by decide +kernel) rfl
set_option maxRecDepth 100000 in
theorem zmk_HummingSetModel_237 : zmm "HummingSetModel" 237 zy137 := Or.inl (zmW 1024 (by decide +kernel) rfl)
set_option maxRecDepth 100000 in
theorem zca138 : zcal 138 4 := ⟨by decide +kernel, zcw138, by decide +kernel, by decide +kernel, zmW (w := Cond.initialized "HummingSetModel") 15 (by decide +kernel) rfl⟩
set_option maxRecDepth 100000 in
theorem zin138 : Cond.instanceMethod (zy 138) ∈ zWS := zmW (w := Cond.instanceMethod zy138) 1030 (by decide +kernel) rfl
set_option maxRecDepth 100000 in
theorem zse138 : Cond.selects zC12 (zy 138) (zy 138) ∈ zWS := zmS (w := Cond.selects zC12 zy138 zy138) 76 (by decide +kernel) rfl
set_option maxRecDepth 100000 in
theorem zmk_HummingSetModel_240 : zmm "HummingSetModel" 240 zy138 := Or.inl (zmW 1028 (by decide +kernel) rfl)
set_option maxRecDepth 100000 in
theorem zca140 : zcal 140 2 := ⟨by decide +kernel, zcw140, by decide +kernel, by decide +kernel, zmW (w := Cond.initialized "HummingSetModel") 15 (by decide +kernel) rfl⟩
set_option maxRecDepth 100000 in
theorem zin140 : Cond.instanceMethod (zy 140) ∈ zWS := zmW (w := Cond.instanceMethod zy140) 1038 (by decide +kernel) rfl
set_option maxRecDepth 100000 in
theorem zse140 : Cond.selects zC12 (zy 140) (zy 140) ∈ zWS := zmS (w := Cond.selects zC12 zy140 zy140) 77 (by decide +kernel) rfl
set_option maxRecDepth 100000 in
theorem zmk_HummingSetModel_243 : zmm "HummingSetModel" 243 zy140 := Or.inl (zmW 1036 (by decide +kernel) rfl)
set_option maxRecDepth 100000 in
theorem zca142 : zcal 142 2 := ⟨by decide +kernel, zcw142, by decide +kernel, by decide +kernel, zmW (w := Cond.initialized "HummingSetModel") 15 (by decide +kernel) rfl⟩
set_option maxRecDepth 100000 in
theorem zin142 : Cond.instanceMethod (zy 142) ∈ zWS := zmW (w := Cond.instanceMethod zy142) 1046 (by decide +kernel) rfl
set_option maxRecDepth 100000 in
theorem zse142 : Cond.selects zC12 (zy 142) (zy 142) ∈ zWS := zmS (w := Cond.selects zC12 zy142 zy142) 78 (by decide +kernel) rfl
set_option maxRecDepth 100000 in
theorem zmk_HummingSetModel_247 : zmm "HummingSetModel" 247 zy142 := Or.inl (zmW 1044 (by decide +kernel) rfl)
set_option maxRecDepth 100000 in
theorem zfk_HummingSetModel_82 : zfm "HummingSetModel" 82 "HummingSetModel" "askKind" "[I" := Or.inl (zmW 800 (by decide +kernel) rfl)
set_option maxRecDepth 100000 in
theorem zfk_HummingSetModel_85 : zfm "HummingSetModel" 85 "HummingSetModel" "askOf" "[I" := Or.inl (zmW 801 (by decide +kernel) rfl)
set_option maxRecDepth 100000 in
theorem zfk_HummingSetModel_88 : zfm "HummingSetModel" 88 "HummingSetModel" "askAt" "[I" := Or.inl (zmW 802 (by decide +kernel) rfl)
set_option maxRecDepth 100000 in
theorem zfk_HummingSetModel_91 : zfm "HummingSetModel" 91 "HummingSetModel" "answers" "[I" := Or.inl (zmW 803 (by decide +kernel) rfl)
set_option maxRecDepth 100000 in
theorem zfk_HummingSetModel_250 : zfm "HummingSetModel" 250 "HummingSetModel" "stateMany" "I" := Or.inl (zmW 807 (by decide +kernel) rfl)
set_option maxRecDepth 100000 in
theorem zca145 : zcal 145 1 := ⟨by decide +kernel, zcw145, by decide +kernel, by decide +kernel, zmW (w := Cond.initialized "HummingSetModel") 15 (by decide +kernel) rfl⟩
set_option maxRecDepth 100000 in
theorem zst145 : Cond.static (zy 145) ∈ zWS := zmW (w := Cond.static zy145) 1070 (by decide +kernel) rfl
set_option maxRecDepth 100000 in
theorem zmk_HummingSetModel_253 : zmm "HummingSetModel" 253 zy145 := Or.inl (zmW 1069 (by decide +kernel) rfl)
set_option maxRecDepth 100000 in
theorem zca146 : zcal 146 1 := ⟨by decide +kernel, zcw146, by decide +kernel, by decide +kernel, zmW (w := Cond.initialized "HummingSetModel") 15 (by decide +kernel) rfl⟩
set_option maxRecDepth 100000 in
theorem zin146 : Cond.instanceMethod (zy 146) ∈ zWS := zmW (w := Cond.instanceMethod zy146) 1074 (by decide +kernel) rfl
set_option maxRecDepth 100000 in
theorem zse146 : Cond.selects zC12 (zy 146) (zy 146) ∈ zWS := zmS (w := Cond.selects zC12 zy146 zy146) 80 (by decide +kernel) rfl
set_option maxRecDepth 100000 in
theorem zmk_HummingSetModel_256 : zmm "HummingSetModel" 256 zy146 := Or.inl (zmW 1072 (by decide +kernel) rfl)
set_option maxRecDepth 100000 in
theorem zca147 : zcal 147 1 := ⟨by decide +kernel, zcw147, by decide +kernel, by decide +kernel, zmW (w := Cond.initialized "HummingSetModel") 15 (by decide +kernel) rfl⟩
set_option maxRecDepth 100000 in
theorem zin147 : Cond.instanceMethod (zy 147) ∈ zWS := zmW (w := Cond.instanceMethod zy147) 1078 (by decide +kernel) rfl
set_option maxRecDepth 100000 in
theorem zse147 : Cond.selects zC12 (zy 147) (zy 147) ∈ zWS := zmS (w := Cond.selects zC12 zy147 zy147) 81 (by decide +kernel) rfl
set_option maxRecDepth 100000 in
theorem zmk_HummingSetModel_260 : zmm "HummingSetModel" 260 zy147 := Or.inl (zmW 1076 (by decide +kernel) rfl)
set_option maxRecDepth 100000 in
theorem zfk_HummingSetModel_97 : zfm "HummingSetModel" 97 "HummingSetModel" "states" "[I" := Or.inl (zmW 808 (by decide +kernel) rfl)
set_option maxRecDepth 100000 in
theorem zfk_HummingSetModel_100 : zfm "HummingSetModel" 100 "HummingSetModel" "weights" "[J" := Or.inl (zmW 809 (by decide +kernel) rfl)
set_option maxRecDepth 100000 in
theorem zca148 : zcal 148 0 := ⟨by decide +kernel, zcw148, by decide +kernel, by decide +kernel, zmW (w := Cond.initialized "HummingSetModel") 15 (by decide +kernel) rfl⟩
set_option maxRecDepth 100000 in
theorem zin148 : Cond.instanceMethod (zy 148) ∈ zWS := zmW (w := Cond.instanceMethod zy148) 1067 (by decide +kernel) rfl
set_option maxRecDepth 100000 in
theorem zse148 : Cond.selects zC12 (zy 148) (zy 148) ∈ zWS := zmS (w := Cond.selects zC12 zy148 zy148) 79 (by decide +kernel) rfl
set_option maxRecDepth 100000 in
theorem zmk_HummingSetModel_265 : zmm "HummingSetModel" 265 zy148 := Or.inl (zmW 1065 (by decide +kernel) rfl)
set_option maxRecDepth 100000 in
theorem zca149 : zcal 149 0 := ⟨by decide +kernel, zcw149, by decide +kernel, by decide +kernel, zmW (w := Cond.initialized "HummingSetModel") 15 (by decide +kernel) rfl⟩
set_option maxRecDepth 100000 in
theorem zin149 : Cond.instanceMethod (zy 149) ∈ zWS := zmW (w := Cond.instanceMethod zy149) 1082 (by decide +kernel) rfl
set_option maxRecDepth 100000 in
theorem zse149 : Cond.selects zC12 (zy 149) (zy 149) ∈ zWS := zmS (w := Cond.selects zC12 zy149 zy149) 82 (by decide +kernel) rfl
set_option maxRecDepth 100000 in
theorem zmk_HummingSetModel_268 : zmm "HummingSetModel" 268 zy149 := Or.inl (zmW 1080 (by decide +kernel) rfl)
set_option maxRecDepth 100000 in
theorem zca153 : zcal 153 2 := ⟨by decide +kernel, zcw153, by decide +kernel, by decide +kernel, zmW (w := Cond.initialized "HummingSetModel") 15 (by decide +kernel) rfl⟩
set_option maxRecDepth 100000 in
theorem zst153 : Cond.static (zy 153) ∈ zWS := zmW (w := Cond.static zy153) 1090 (by decide +kernel) rfl
set_option maxRecDepth 100000 in
theorem zmk_HummingSetModel_274 : zmm "HummingSetModel" 274 zy153 := Or.inl (zmW 1089 (by decide +kernel) rfl)
set_option maxRecDepth 100000 in
theorem zfk_HummingSetModel_104 : zfm "HummingSetModel" 104 "HummingSetModel" "byAnswer" "[J" := Or.inl (zmW 810 (by decide +kernel) rfl)
set_option maxRecDepth 100000 in
theorem zca156 : zcal 156 3 := ⟨by decide +kernel, zcw156, by decide +kernel, by decide +kernel, zmW (w := Cond.initialized "HummingSetModel") 15 (by decide +kernel) rfl⟩
set_option maxRecDepth 100000 in
theorem zin156 : Cond.instanceMethod (zy 156) ∈ zWS := zmW (w := Cond.instanceMethod zy156) 1102 (by decide +kernel) rfl
set_option maxRecDepth 100000 in
theorem zse156 : Cond.selects zC12 (zy 156) (zy 156) ∈ zWS := zmS (w := Cond.selects zC12 zy156 zy156) 83 (by decide +kernel) rfl
set_option maxRecDepth 100000 in
theorem zmk_HummingSetModel_278 : zmm "HummingSetModel" 278 zy156 := Or.inl (zmW 1100 (by decide +kernel) rfl)
set_option maxRecDepth 100000 in
theorem zca157 : zcal 157 1 := ⟨by decide +kernel, zcw157, by decide +kernel, by decide +kernel, zmW (w := Cond.initialized "HummingSetModel") 15 (by decide +kernel) rfl⟩
set_option maxRecDepth 100000 in
theorem zst157 : Cond.static (zy 157) ∈ zWS := zmW (w := Cond.static zy157) 1105 (by decide +kernel) rfl
set_option maxRecDepth 100000 in
theorem zmk_HummingSetModel_282 : zmm "HummingSetModel" 282 zy157 := Or.inl (zmW 1104 (by decide +kernel) rfl)
set_option maxRecDepth 100000 in
theorem zca159 : zcal 159 1 := ⟨by decide +kernel, zcw159, by decide +kernel, by decide +kernel, zmW (w := Cond.initialized "HummingSetModel") 15 (by decide +kernel) rfl⟩
set_option maxRecDepth 100000 in
theorem zin159 : Cond.instanceMethod (zy 159) ∈ zWS := zmW (w := Cond.instanceMethod zy159) 1114 (by decide +kernel) rfl
set_option maxRecDepth 100000 in
theorem zse159 : Cond.selects zC12 (zy 159) (zy 159) ∈ zWS := zmS (w := Cond.selects zC12 zy159 zy159) 84 (by decide +kernel) rfl
set_option maxRecDepth 100000 in
theorem zmk_HummingSetModel_287 : zmm "HummingSetModel" 287 zy159 := Or.inl (zmW 1112 (by decide +kernel) rfl)
set_option maxRecDepth 100000 in
theorem zca160 : zcal 160 1 := ⟨by decide +kernel, zcw160, by decide +kernel, by decide +kernel, zmW (w := Cond.initialized "HummingSetModel") 15 (by decide +kernel) rfl⟩
set_option maxRecDepth 100000 in
theorem zin160 : Cond.instanceMethod (zy 160) ∈ zWS := zmW (w := Cond.instanceMethod zy160) 1118 (by decide +kernel) rfl
set_option maxRecDepth 100000 in
theorem zse160 : Cond.selects zC12 (zy 160) (zy 160) ∈ zWS := zmS (w := Cond.selects zC12 zy160 zy160) 85 (by decide +kernel) rfl
set_option maxRecDepth 100000 in
theorem zmk_HummingSetModel_290 : zmm "HummingSetModel" 290 zy160 := Or.inl (zmW 1116 (by decide +kernel) rfl)
set_option maxRecDepth 100000 in
theorem zfk_HummingSetModel_107 : zfm "HummingSetModel" 107 "HummingSetModel" "least" "[J" := Or.inl (zmW 811 (by decide +kernel) rfl)
set_option maxRecDepth 100000 in
theorem zca162 : zcal 162 1 := ⟨by decide +kernel, zcw162, by decide +kernel, by decide +kernel, zmW (w := Cond.initialized "HummingSetModel") 15 (by decide +kernel) rfl⟩
set_option maxRecDepth 100000 in
theorem zin162 : Cond.instanceMethod (zy 162) ∈ zWS := zmW (w := Cond.instanceMethod zy162) 1130 (by decide +kernel) rfl
set_option maxRecDepth 100000 in
theorem zse162 : Cond.selects zC12 (zy 162) (zy 162) ∈ zWS := zmS (w := Cond.selects zC12 zy162 zy162) 87 (by decide +kernel) rfl
set_option maxRecDepth 100000 in
theorem zmk_HummingSetModel_293 : zmm "HummingSetModel" 293 zy162 := Or.inl (zmW 1128 (by decide +kernel) rfl)
set_option maxRecDepth 100000 in
theorem zfk_HummingSetModel_110 : zfm "HummingSetModel" 110 "HummingSetModel" "nexts" "[I" := Or.inl (zmW 812 (by decide +kernel) rfl)
set_option maxRecDepth 100000 in
theorem zca163 : zcal 163 0 := ⟨by decide +kernel, zcw163, by decide +kernel, by decide +kernel, zmW (w := Cond.initialized "HummingSetModel") 15 (by decide +kernel) rfl⟩
set_option maxRecDepth 100000 in
theorem zin163 : Cond.instanceMethod (zy 163) ∈ zWS := zmW (w := Cond.instanceMethod zy163) 1126 (by decide +kernel) rfl
set_option maxRecDepth 100000 in
theorem zse163 : Cond.selects zC12 (zy 163) (zy 163) ∈ zWS := zmS (w := Cond.selects zC12 zy163 zy163) 86 (by decide +kernel) rfl
set_option maxRecDepth 100000 in
theorem zmk_HummingSetModel_296 : zmm "HummingSetModel" 296 zy163 := Or.inl (zmW 1124 (by decide +kernel) rfl)
set_option maxRecDepth 100000 in
theorem zca133 : zcal 133 1 := ⟨by decide +kernel, zcw133, by decide +kernel, by decide +kernel, zmW (w := Cond.initialized "HummingSetModel") 15 (by decide +kernel) rfl⟩
set_option maxRecDepth 100000 in
theorem zin133 : Cond.instanceMethod (zy 133) ∈ zWS := zmW (w := Cond.instanceMethod zy133) 1138 (by decide +kernel) rfl
set_option maxRecDepth 100000 in
theorem zse133 : Cond.selects zC12 (zy 133) (zy 133) ∈ zWS := zmS (w := Cond.selects zC12 zy133 zy133) 88 (by decide +kernel) rfl
set_option maxRecDepth 100000 in
theorem zmk_HummingSetModel_299 : zmm "HummingSetModel" 299 zy133 := Or.inl (zmW 1136 (by decide +kernel) rfl)
set_option maxRecDepth 100000 in
theorem zca167 : zcal 167 2 := ⟨by decide +kernel, zcw167, by decide +kernel, by decide +kernel, zmW (w := Cond.initialized "HummingSetModel") 15 (by decide +kernel) rfl⟩
set_option maxRecDepth 100000 in
theorem zin167 : Cond.instanceMethod (zy 167) ∈ zWS := zmW (w := Cond.instanceMethod zy167) 1151 (by decide +kernel) rfl
set_option maxRecDepth 100000 in
theorem zse167 : Cond.selects zC12 (zy 167) (zy 167) ∈ zWS := zmS (w := Cond.selects zC12 zy167 zy167) 89 (by decide +kernel) rfl
set_option maxRecDepth 100000 in
theorem zmk_HummingSetModel_307 : zmm "HummingSetModel" 307 zy167 := Or.inl (zmW 1149 (by decide +kernel) rfl)
set_option maxRecDepth 100000 in
theorem zca171 : zcal 171 2 := ⟨by decide +kernel, zcw171, by decide +kernel, by decide +kernel, zmW (w := Cond.initialized "HummingSetModel") 15 (by decide +kernel) rfl⟩
set_option maxRecDepth 100000 in
theorem zin171 : Cond.instanceMethod (zy 171) ∈ zWS := zmW (w := Cond.instanceMethod zy171) 1173 (by decide +kernel) rfl
set_option maxRecDepth 100000 in
theorem zse171 : Cond.selects zC12 (zy 171) (zy 171) ∈ zWS := zmS (w := Cond.selects zC12 zy171 zy171) 90 (by decide +kernel) rfl
set_option maxRecDepth 100000 in
theorem zmk_HummingSetModel_318 : zmm "HummingSetModel" 318 zy171 := Or.inl (zmW 1171 (by decide +kernel) rfl)
set_option maxRecDepth 100000 in
theorem zca70 : zcal 70 2 := ⟨by decide +kernel, zcw70, by decide +kernel, by decide +kernel, zmW (w := Cond.initialized "HummingSet") 1 (by decide +kernel) rfl⟩
set_option maxRecDepth 100000 in
theorem zin70 : Cond.instanceMethod (zy 70) ∈ zWS := zmW (w := Cond.instanceMethod zy70) 442 (by decide +kernel) rfl
set_option maxRecDepth 100000 in
theorem zse70 : Cond.selects zC11 (zy 70) (zy 70) ∈ zWS := zmW (w := Cond.selects zC11 zy70 zy70) 443 (by decide +kernel) rfl
set_option maxRecDepth 100000 in
theorem zmk_HummingSetLaw_15 : zmm "HummingSetLaw" 15 zy70 := Or.inl (zmW 441 (by decide +kernel) rfl)
set_option maxRecDepth 100000 in
theorem zca110 : zcal 110 2 := ⟨by decide +kernel, zcw110, by decide +kernel, by decide +kernel, zmW (w := Cond.initialized "HummingSetModel") 15 (by decide +kernel) rfl⟩
set_option maxRecDepth 100000 in
theorem zin110 : Cond.instanceMethod (zy 110) ∈ zWS := zmW (w := Cond.instanceMethod zy110) 891 (by decide +kernel) rfl
set_option maxRecDepth 100000 in
theorem zse110 : Cond.selects zC12 (zy 110) (zy 110) ∈ zWS := zmW (w := Cond.selects zC12 zy110 zy110) 892 (by decide +kernel) rfl
set_option maxRecDepth 100000 in
theorem zmk_HummingSetLaw_19 : zmm "HummingSetLaw" 19 zy110 := Or.inl (zmW 890 (by decide +kernel) rfl)
set_option maxRecDepth 100000 in
theorem zca71 : zcal 71 0 := ⟨by decide +kernel, zcw71, by decide +kernel, by decide +kernel, zmW (w := Cond.initialized "HummingSet") 1 (by decide +kernel) rfl⟩
set_option maxRecDepth 100000 in
theorem zin71 : Cond.instanceMethod (zy 71) ∈ zWS := zmW (w := Cond.instanceMethod zy71) 454 (by decide +kernel) rfl
set_option maxRecDepth 100000 in
theorem zse71 : Cond.selects zC11 (zy 71) (zy 71) ∈ zWS := zmW (w := Cond.selects zC11 zy71 zy71) 455 (by decide +kernel) rfl
set_option maxRecDepth 100000 in
theorem zmk_HummingSetLaw_20 : zmm "HummingSetLaw" 20 zy71 := Or.inl (zmW 453 (by decide +kernel) rfl)
set_option maxRecDepth 100000 in
theorem zca111 : zcal 111 0 := ⟨by decide +kernel, zcw111, by decide +kernel, by decide +kernel, zmW (w := Cond.initialized "HummingSetModel") 15 (by decide +kernel) rfl⟩
set_option maxRecDepth 100000 in
theorem zin111 : Cond.instanceMethod (zy 111) ∈ zWS := zmW (w := Cond.instanceMethod zy111) 900 (by decide +kernel) rfl
set_option maxRecDepth 100000 in
theorem zse111 : Cond.selects zC12 (zy 111) (zy 111) ∈ zWS := zmW (w := Cond.selects zC12 zy111 zy111) 901 (by decide +kernel) rfl
set_option maxRecDepth 100000 in
theorem zmk_HummingSetLaw_24 : zmm "HummingSetLaw" 24 zy111 := Or.inl (zmW 899 (by decide +kernel) rfl)
set_option maxRecDepth 100000 in
theorem zca72 : zcal 72 0 := ⟨by decide +kernel, zcw72, by decide +kernel, by decide +kernel, zmW (w := Cond.initialized "HummingSet") 1 (by decide +kernel) rfl⟩
set_option maxRecDepth 100000 in
theorem zin72 : Cond.instanceMethod (zy 72) ∈ zWS := zmW (w := Cond.instanceMethod zy72) 458 (by decide +kernel) rfl
set_option maxRecDepth 100000 in
theorem zse72 : Cond.selects zC11 (zy 72) (zy 72) ∈ zWS := zmW (w := Cond.selects zC11 zy72 zy72) 459 (by decide +kernel) rfl
set_option maxRecDepth 100000 in
theorem zmk_HummingSetLaw_25 : zmm "HummingSetLaw" 25 zy72 := Or.inl (zmW 457 (by decide +kernel) rfl)
set_option maxRecDepth 100000 in
theorem zca123 : zcal 123 0 := ⟨by decide +kernel, zcw123, by decide +kernel, by decide +kernel, zmW (w := Cond.initialized "HummingSetModel") 15 (by decide +kernel) rfl⟩
set_option maxRecDepth 100000 in
theorem zin123 : Cond.instanceMethod (zy 123) ∈ zWS := zmW (w := Cond.instanceMethod zy123) 904 (by decide +kernel) rfl
set_option maxRecDepth 100000 in
theorem zse123 : Cond.selects zC12 (zy 123) (zy 123) ∈ zWS := zmW (w := Cond.selects zC12 zy123 zy123) 905 (by decide +kernel) rfl
set_option maxRecDepth 100000 in
theorem zmk_HummingSetLaw_28 : zmm "HummingSetLaw" 28 zy123 := Or.inl (zmW 903 (by decide +kernel) rfl)
set_option maxRecDepth 100000 in
theorem zca73 : zcal 73 0 := ⟨by decide +kernel, zcw73, by decide +kernel, by decide +kernel, zmW (w := Cond.initialized "HummingSet") 1 (by decide +kernel) rfl⟩
set_option maxRecDepth 100000 in
theorem zin73 : Cond.instanceMethod (zy 73) ∈ zWS := zmW (w := Cond.instanceMethod zy73) 514 (by decide +kernel) rfl
set_option maxRecDepth 100000 in
theorem zse73 : Cond.selects zC11 (zy 73) (zy 73) ∈ zWS := zmW (w := Cond.selects zC11 zy73 zy73) 515 (by decide +kernel) rfl
set_option maxRecDepth 100000 in
theorem zmk_HummingSetLaw_29 : zmm "HummingSetLaw" 29 zy73 := Or.inl (zmW 513 (by decide +kernel) rfl)
set_option maxRecDepth 100000 in
theorem zca124 : zcal 124 0 := ⟨by decide +kernel, zcw124, by decide +kernel, by decide +kernel, zmW (w := Cond.initialized "HummingSetModel") 15 (by decide +kernel) rfl⟩
set_option maxRecDepth 100000 in
theorem zin124 : Cond.instanceMethod (zy 124) ∈ zWS := zmW (w := Cond.instanceMethod zy124) 966 (by decide +kernel) rfl
set_option maxRecDepth 100000 in
theorem zse124 : Cond.selects zC12 (zy 124) (zy 124) ∈ zWS := zmW (w := Cond.selects zC12 zy124 zy124) 967 (by decide +kernel) rfl
set_option maxRecDepth 100000 in
theorem zmk_HummingSetLaw_32 : zmm "HummingSetLaw" 32 zy124 := Or.inl (zmW 965 (by decide +kernel) rfl)
set_option maxRecDepth 100000 in
theorem zca74 : zcal 74 2 := ⟨by decide +kernel, zcw74, by decide +kernel, by decide +kernel, zmW (w := Cond.initialized "HummingSet") 1 (by decide +kernel) rfl⟩
set_option maxRecDepth 100000 in
theorem zin74 : Cond.instanceMethod (zy 74) ∈ zWS := zmW (w := Cond.instanceMethod zy74) 518 (by decide +kernel) rfl
set_option maxRecDepth 100000 in
theorem zse74 : Cond.selects zC11 (zy 74) (zy 74) ∈ zWS := zmW (w := Cond.selects zC11 zy74 zy74) 519 (by decide +kernel) rfl
set_option maxRecDepth 100000 in
theorem zmk_HummingSetLaw_33 : zmm "HummingSetLaw" 33 zy74 := Or.inl (zmW 517 (by decide +kernel) rfl)
set_option maxRecDepth 100000 in
theorem zca129 : zcal 129 2 := ⟨by decide +kernel, zcw129, by decide +kernel, by decide +kernel, zmW (w := Cond.initialized "HummingSetModel") 15 (by decide +kernel) rfl⟩
set_option maxRecDepth 100000 in
theorem zin129 : Cond.instanceMethod (zy 129) ∈ zWS := zmW (w := Cond.instanceMethod zy129) 970 (by decide +kernel) rfl
set_option maxRecDepth 100000 in
theorem zse129 : Cond.selects zC12 (zy 129) (zy 129) ∈ zWS := zmW (w := Cond.selects zC12 zy129 zy129) 971 (by decide +kernel) rfl
set_option maxRecDepth 100000 in
theorem zmk_HummingSetLaw_37 : zmm "HummingSetLaw" 37 zy129 := Or.inl (zmW 969 (by decide +kernel) rfl)
set_option maxRecDepth 100000 in
theorem zca75 : zcal 75 3 := ⟨by decide +kernel, zcw75, by decide +kernel, by decide +kernel, zmW (w := Cond.initialized "HummingSet") 1 (by decide +kernel) rfl⟩
set_option maxRecDepth 100000 in
theorem zin75 : Cond.instanceMethod (zy 75) ∈ zWS := zmW (w := Cond.instanceMethod zy75) 523 (by decide +kernel) rfl
set_option maxRecDepth 100000 in
theorem zse75 : Cond.selects zC11 (zy 75) (zy 75) ∈ zWS := zmW (w := Cond.selects zC11 zy75 zy75) 524 (by decide +kernel) rfl
set_option maxRecDepth 100000 in
theorem zmk_HummingSetLaw_38 : zmm "HummingSetLaw" 38 zy75 := Or.inl (zmW 522 (by decide +kernel) rfl)
set_option maxRecDepth 100000 in
theorem zca134 : zcal 134 3 := ⟨by decide +kernel, zcw134, by decide +kernel, by decide +kernel, zmW (w := Cond.initialized "HummingSetModel") 15 (by decide +kernel) rfl⟩
set_option maxRecDepth 100000 in
theorem zin134 : Cond.instanceMethod (zy 134) ∈ zWS := zmW (w := Cond.instanceMethod zy134) 979 (by decide +kernel) rfl
set_option maxRecDepth 100000 in
theorem zse134 : Cond.selects zC12 (zy 134) (zy 134) ∈ zWS := zmW (w := Cond.selects zC12 zy134 zy134) 980 (by decide +kernel) rfl
set_option maxRecDepth 100000 in
theorem zmk_HummingSetLaw_42 : zmm "HummingSetLaw" 42 zy134 := Or.inl (zmW 978 (by decide +kernel) rfl)
set_option maxRecDepth 100000 in
theorem zca76 : zcal 76 4 := ⟨by decide +kernel, zcw76, by decide +kernel, by decide +kernel, zmW (w := Cond.initialized "HummingSet") 1 (by decide +kernel) rfl⟩
set_option maxRecDepth 100000 in
theorem zin76 : Cond.instanceMethod (zy 76) ∈ zWS := zmW (w := Cond.instanceMethod zy76) 534 (by decide +kernel) rfl
set_option maxRecDepth 100000 in
theorem zse76 : Cond.selects zC11 (zy 76) (zy 76) ∈ zWS := zmW (w := Cond.selects zC11 zy76 zy76) 535 (by decide +kernel) rfl
set_option maxRecDepth 100000 in
theorem zmk_HummingSetLaw_43 : zmm "HummingSetLaw" 43 zy76 := Or.inl (zmW 533 (by decide +kernel) rfl)
set_option maxRecDepth 100000 in
theorem zca135 : zcal 135 4 := ⟨by decide +kernel, zcw135, by decide +kernel, by decide +kernel, zmW (w := Cond.initialized "HummingSetModel") 15 (by decide +kernel) rfl⟩
set_option maxRecDepth 100000 in
theorem zin135 : Cond.instanceMethod (zy 135) ∈ zWS := zmW (w := Cond.instanceMethod zy135) 1002 (by decide +kernel) rfl
set_option maxRecDepth 100000 in
theorem zse135 : Cond.selects zC12 (zy 135) (zy 135) ∈ zWS := zmW (w := Cond.selects zC12 zy135 zy135) 1003 (by decide +kernel) rfl
set_option maxRecDepth 100000 in
theorem zmk_HummingSetLaw_47 : zmm "HummingSetLaw" 47 zy135 := Or.inl (zmW 1001 (by decide +kernel) rfl)
set_option maxRecDepth 100000 in
theorem zca77 : zcal 77 3 := ⟨by decide +kernel, zcw77, by decide +kernel, by decide +kernel, zmW (w := Cond.initialized "HummingSet") 1 (by decide +kernel) rfl⟩
set_option maxRecDepth 100000 in
theorem zin77 : Cond.instanceMethod (zy 77) ∈ zWS := zmW (w := Cond.instanceMethod zy77) 539 (by decide +kernel) rfl
set_option maxRecDepth 100000 in
theorem zse77 : Cond.selects zC11 (zy 77) (zy 77) ∈ zWS := zmW (w := Cond.selects zC11 zy77 zy77) 540 (by decide +kernel) rfl
set_option maxRecDepth 100000 in
theorem zmk_HummingSetLaw_48 : zmm "HummingSetLaw" 48 zy77 := Or.inl (zmW 538 (by decide +kernel) rfl)
set_option maxRecDepth 100000 in
theorem zca136 : zcal 136 3 := ⟨by decide +kernel, zcw136, by decide +kernel, by decide +kernel, zmW (w := Cond.initialized "HummingSetModel") 15 (by decide +kernel) rfl⟩
set_option maxRecDepth 100000 in
theorem zin136 : Cond.instanceMethod (zy 136) ∈ zWS := zmW (w := Cond.instanceMethod zy136) 1010 (by decide +kernel) rfl
set_option maxRecDepth 100000 in
theorem zse136 : Cond.selects zC12 (zy 136) (zy 136) ∈ zWS := zmW (w := Cond.selects zC12 zy136 zy136) 1011 (by decide +kernel) rfl
set_option maxRecDepth 100000 in
theorem zmk_HummingSetLaw_51 : zmm "HummingSetLaw" 51 zy136 := Or.inl (zmW 1009 (by decide +kernel) rfl)
set_option maxRecDepth 100000 in
theorem zca78 : zcal 78 4 := ⟨by decide +kernel, zcw78, by decide +kernel, by decide +kernel, zmW (w := Cond.initialized "HummingSet") 1 (by decide +kernel) rfl⟩
set_option maxRecDepth 100000 in
theorem zin78 : Cond.instanceMethod (zy 78) ∈ zWS := zmW (w := Cond.instanceMethod zy78) 548 (by decide +kernel) rfl
set_option maxRecDepth 100000 in
theorem zse78 : Cond.selects zC11 (zy 78) (zy 78) ∈ zWS := zmW (w := Cond.selects zC11 zy78 zy78) 549 (by decide +kernel) rfl
set_option maxRecDepth 100000 in
theorem zmk_HummingSetLaw_52 : zmm "HummingSetLaw" 52 zy78 := Or.inl (zmW 547 (by decide +kernel) rfl)
set_option maxRecDepth 100000 in
theorem zca139 : zcal 139 4 := ⟨by decide +kernel, zcw139, by decide +kernel, by decide +kernel, zmW (w := Cond.initialized "HummingSetModel") 15 (by decide +kernel) rfl⟩
set_option maxRecDepth 100000 in
theorem zin139 : Cond.instanceMethod (zy 139) ∈ zWS := zmW (w := Cond.instanceMethod zy139) 1021 (by decide +kernel) rfl
set_option maxRecDepth 100000 in
theorem zse139 : Cond.selects zC12 (zy 139) (zy 139) ∈ zWS := zmW (w := Cond.selects zC12 zy139 zy139) 1022 (by decide +kernel) rfl
set_option maxRecDepth 100000 in
theorem zmk_HummingSetLaw_55 : zmm "HummingSetLaw" 55 zy139 := Or.inl (zmW 1020 (by decide +kernel) rfl)
set_option maxRecDepth 100000 in
theorem zca79 : zcal 79 2 := ⟨by decide +kernel, zcw79, by decide +kernel, by decide +kernel, zmW (w := Cond.initialized "HummingSet") 1 (by decide +kernel) rfl⟩
set_option maxRecDepth 100000 in
theorem zin79 : Cond.instanceMethod (zy 79) ∈ zWS := zmW (w := Cond.instanceMethod zy79) 561 (by decide +kernel) rfl
set_option maxRecDepth 100000 in
theorem zse79 : Cond.selects zC11 (zy 79) (zy 79) ∈ zWS := zmW (w := Cond.selects zC11 zy79 zy79) 562 (by decide +kernel) rfl
set_option maxRecDepth 100000 in
theorem zmk_HummingSetLaw_56 : zmm "HummingSetLaw" 56 zy79 := Or.inl (zmW 560 (by decide +kernel) rfl)
set_option maxRecDepth 100000 in
theorem zca141 : zcal 141 2 := ⟨by decide +kernel, zcw141, by decide +kernel, by decide +kernel, zmW (w := Cond.initialized "HummingSetModel") 15 (by decide +kernel) rfl⟩
set_option maxRecDepth 100000 in
theorem zin141 : Cond.instanceMethod (zy 141) ∈ zWS := zmW (w := Cond.instanceMethod zy141) 1033 (by decide +kernel) rfl
set_option maxRecDepth 100000 in
theorem zse141 : Cond.selects zC12 (zy 141) (zy 141) ∈ zWS := zmW (w := Cond.selects zC12 zy141 zy141) 1034 (by decide +kernel) rfl
set_option maxRecDepth 100000 in
theorem zmk_HummingSetLaw_59 : zmm "HummingSetLaw" 59 zy141 := Or.inl (zmW 1032 (by decide +kernel) rfl)
set_option maxRecDepth 100000 in
theorem zca80 : zcal 80 2 := ⟨by decide +kernel, zcw80, by decide +kernel, by decide +kernel, zmW (w := Cond.initialized "HummingSet") 1 (by decide +kernel) rfl⟩
set_option maxRecDepth 100000 in
theorem zin80 : Cond.instanceMethod (zy 80) ∈ zWS := zmW (w := Cond.instanceMethod zy80) 577 (by decide +kernel) rfl
set_option maxRecDepth 100000 in
theorem zse80 : Cond.selects zC11 (zy 80) (zy 80) ∈ zWS := zmW (w := Cond.selects zC11 zy80 zy80) 578 (by decide +kernel) rfl
set_option maxRecDepth 100000 in
theorem zmk_HummingSetLaw_60 : zmm "HummingSetLaw" 60 zy80 := Or.inl (zmW 576 (by decide +kernel) rfl)
set_option maxRecDepth 100000 in
theorem zca143 : zcal 143 2 := ⟨by decide +kernel, zcw143, by decide +kernel, by decide +kernel, zmW (w := Cond.initialized "HummingSetModel") 15 (by decide +kernel) rfl⟩
set_option maxRecDepth 100000 in
theorem zin143 : Cond.instanceMethod (zy 143) ∈ zWS := zmW (w := Cond.instanceMethod zy143) 1041 (by decide +kernel) rfl
set_option maxRecDepth 100000 in
theorem zse143 : Cond.selects zC12 (zy 143) (zy 143) ∈ zWS := zmW (w := Cond.selects zC12 zy143 zy143) 1042 (by decide +kernel) rfl
set_option maxRecDepth 100000 in
theorem zmk_HummingSetLaw_63 : zmm "HummingSetLaw" 63 zy143 := Or.inl (zmW 1040 (by decide +kernel) rfl)
set_option maxRecDepth 100000 in
theorem zca81 : zcal 81 0 := ⟨by decide +kernel, zcw81, by decide +kernel, by decide +kernel, zmW (w := Cond.initialized "HummingSet") 1 (by decide +kernel) rfl⟩
set_option maxRecDepth 100000 in
theorem zin81 : Cond.instanceMethod (zy 81) ∈ zWS := zmW (w := Cond.instanceMethod zy81) 592 (by decide +kernel) rfl
set_option maxRecDepth 100000 in
theorem zse81 : Cond.selects zC11 (zy 81) (zy 81) ∈ zWS := zmW (w := Cond.selects zC11 zy81 zy81) 593 (by decide +kernel) rfl
set_option maxRecDepth 100000 in
theorem zmk_HummingSetLaw_64 : zmm "HummingSetLaw" 64 zy81 := Or.inl (zmW 591 (by decide +kernel) rfl)
set_option maxRecDepth 100000 in
theorem zca144 : zcal 144 0 := ⟨by decide +kernel, zcw144, by decide +kernel, by decide +kernel, zmW (w := Cond.initialized "HummingSetModel") 15 (by decide +kernel) rfl⟩
set_option maxRecDepth 100000 in
theorem zin144 : Cond.instanceMethod (zy 144) ∈ zWS := zmW (w := Cond.instanceMethod zy144) 1049 (by decide +kernel) rfl
set_option maxRecDepth 100000 in
theorem zse144 : Cond.selects zC12 (zy 144) (zy 144) ∈ zWS := zmW (w := Cond.selects zC12 zy144 zy144) 1050 (by decide +kernel) rfl
set_option maxRecDepth 100000 in
theorem zmk_HummingSetLaw_67 : zmm "HummingSetLaw" 67 zy144 := Or.inl (zmW 1048 (by decide +kernel) rfl)
set_option maxRecDepth 100000 in
theorem zca82 : zcal 82 4 := ⟨by decide +kernel, zcw82, by decide +kernel, by decide +kernel, zmW (w := Cond.initialized "HummingSet") 1 (by decide +kernel) rfl⟩
set_option maxRecDepth 100000 in
theorem zin82 : Cond.instanceMethod (zy 82) ∈ zWS := zmW (w := Cond.instanceMethod zy82) 605 (by decide +kernel) rfl
set_option maxRecDepth 100000 in
theorem zse82 : Cond.selects zC11 (zy 82) (zy 82) ∈ zWS := zmW (w := Cond.selects zC11 zy82 zy82) 606 (by decide +kernel) rfl
set_option maxRecDepth 100000 in
theorem zmk_HummingSetLaw_68 : zmm "HummingSetLaw" 68 zy82 := Or.inl (zmW 604 (by decide +kernel) rfl)
set_option maxRecDepth 100000 in
theorem zca150 : zcal 150 4 := ⟨by decide +kernel, zcw150, by decide +kernel, by decide +kernel, zmW (w := Cond.initialized "HummingSetModel") 15 (by decide +kernel) rfl⟩
set_option maxRecDepth 100000 in
theorem zin150 : Cond.instanceMethod (zy 150) ∈ zWS := zmW (w := Cond.instanceMethod zy150) 1053 (by decide +kernel) rfl
set_option maxRecDepth 100000 in
theorem zse150 : Cond.selects zC12 (zy 150) (zy 150) ∈ zWS := zmW (w := Cond.selects zC12 zy150 zy150) 1054 (by decide +kernel) rfl
set_option maxRecDepth 100000 in
theorem zmk_HummingSetLaw_71 : zmm "HummingSetLaw" 71 zy150 := Or.inl (zmW 1052 (by decide +kernel) rfl)
set_option maxRecDepth 100000 in
theorem zca83 : zcal 83 0 := ⟨by decide +kernel, zcw83, by decide +kernel, by decide +kernel, zmW (w := Cond.initialized "HummingSet") 1 (by decide +kernel) rfl⟩
set_option maxRecDepth 100000 in
theorem zin83 : Cond.instanceMethod (zy 83) ∈ zWS := zmW (w := Cond.instanceMethod zy83) 613 (by decide +kernel) rfl
set_option maxRecDepth 100000 in
theorem zse83 : Cond.selects zC11 (zy 83) (zy 83) ∈ zWS := zmW (w := Cond.selects zC11 zy83 zy83) 614 (by decide +kernel) rfl
set_option maxRecDepth 100000 in
theorem zmk_HummingSetLaw_72 : zmm "HummingSetLaw" 72 zy83 := Or.inl (zmW 612 (by decide +kernel) rfl)
set_option maxRecDepth 100000 in
theorem zca151 : zcal 151 0 := ⟨by decide +kernel, zcw151, by decide +kernel, by decide +kernel, zmW (w := Cond.initialized "HummingSetModel") 15 (by decide +kernel) rfl⟩
set_option maxRecDepth 100000 in
theorem zin151 : Cond.instanceMethod (zy 151) ∈ zWS := zmW (w := Cond.instanceMethod zy151) 1057 (by decide +kernel) rfl
set_option maxRecDepth 100000 in
theorem zse151 : Cond.selects zC12 (zy 151) (zy 151) ∈ zWS := zmW (w := Cond.selects zC12 zy151 zy151) 1058 (by decide +kernel) rfl
set_option maxRecDepth 100000 in
theorem zmk_HummingSetLaw_75 : zmm "HummingSetLaw" 75 zy151 := Or.inl (zmW 1056 (by decide +kernel) rfl)
set_option maxRecDepth 100000 in
theorem zca84 : zcal 84 1 := ⟨by decide +kernel, zcw84, by decide +kernel, by decide +kernel, zmW (w := Cond.initialized "HummingSet") 1 (by decide +kernel) rfl⟩
set_option maxRecDepth 100000 in
theorem zin84 : Cond.instanceMethod (zy 84) ∈ zWS := zmW (w := Cond.instanceMethod zy84) 617 (by decide +kernel) rfl
set_option maxRecDepth 100000 in
theorem zse84 : Cond.selects zC11 (zy 84) (zy 84) ∈ zWS := zmW (w := Cond.selects zC11 zy84 zy84) 618 (by decide +kernel) rfl
set_option maxRecDepth 100000 in
theorem zmk_HummingSetLaw_76 : zmm "HummingSetLaw" 76 zy84 := Or.inl (zmW 616 (by decide +kernel) rfl)
set_option maxRecDepth 100000 in
theorem zca152 : zcal 152 1 := ⟨by decide +kernel, zcw152, by decide +kernel, by decide +kernel, zmW (w := Cond.initialized "HummingSetModel") 15 (by decide +kernel) rfl⟩
set_option maxRecDepth 100000 in
theorem zin152 : Cond.instanceMethod (zy 152) ∈ zWS := zmW (w := Cond.instanceMethod zy152) 1061 (by decide +kernel) rfl
set_option maxRecDepth 100000 in
theorem zse152 : Cond.selects zC12 (zy 152) (zy 152) ∈ zWS := zmW (w := Cond.selects zC12 zy152 zy152) 1062 (by decide +kernel) rfl
set_option maxRecDepth 100000 in
theorem zmk_HummingSetLaw_80 : zmm "HummingSetLaw" 80 zy152 := Or.inl (zmW 1060 (by decide +kernel) rfl)
set_option maxRecDepth 100000 in
theorem zca85 : zcal 85 2 := ⟨by decide +kernel, zcw85, by decide +kernel, by decide +kernel, zmW (w := Cond.initialized "HummingSet") 1 (by decide +kernel) rfl⟩
set_option maxRecDepth 100000 in
theorem zin85 : Cond.instanceMethod (zy 85) ∈ zWS := zmW (w := Cond.instanceMethod zy85) 622 (by decide +kernel) rfl
set_option maxRecDepth 100000 in
theorem zse85 : Cond.selects zC11 (zy 85) (zy 85) ∈ zWS := zmW (w := Cond.selects zC11 zy85 zy85) 623 (by decide +kernel) rfl
set_option maxRecDepth 100000 in
theorem zmk_HummingSetLaw_81 : zmm "HummingSetLaw" 81 zy85 := Or.inl (zmW 621 (by decide +kernel) rfl)
set_option maxRecDepth 100000 in
theorem zca154 : zcal 154 2 := ⟨by decide +kernel, zcw154, by decide +kernel, by decide +kernel, zmW (w := Cond.initialized "HummingSetModel") 15 (by decide +kernel) rfl⟩
set_option maxRecDepth 100000 in
theorem zin154 : Cond.instanceMethod (zy 154) ∈ zWS := zmW (w := Cond.instanceMethod zy154) 1085 (by decide +kernel) rfl
set_option maxRecDepth 100000 in
theorem zse154 : Cond.selects zC12 (zy 154) (zy 154) ∈ zWS := zmW (w := Cond.selects zC12 zy154 zy154) 1086 (by decide +kernel) rfl
set_option maxRecDepth 100000 in
theorem zmk_HummingSetLaw_85 : zmm "HummingSetLaw" 85 zy154 := Or.inl (zmW 1084 (by decide +kernel) rfl)
set_option maxRecDepth 100000 in
theorem zca86 : zcal 86 0 := ⟨by decide +kernel, zcw86, by decide +kernel, by decide +kernel, zmW (w := Cond.initialized "HummingSet") 1 (by decide +kernel) rfl⟩
set_option maxRecDepth 100000 in
theorem zin86 : Cond.instanceMethod (zy 86) ∈ zWS := zmW (w := Cond.instanceMethod zy86) 634 (by decide +kernel) rfl
set_option maxRecDepth 100000 in
theorem zse86 : Cond.selects zC11 (zy 86) (zy 86) ∈ zWS := zmW (w := Cond.selects zC11 zy86 zy86) 635 (by decide +kernel) rfl
set_option maxRecDepth 100000 in
theorem zmk_HummingSetLaw_86 : zmm "HummingSetLaw" 86 zy86 := Or.inl (zmW 633 (by decide +kernel) rfl)
set_option maxRecDepth 100000 in
theorem zca155 : zcal 155 0 := ⟨by decide +kernel, zcw155, by decide +kernel, by decide +kernel, zmW (w := Cond.initialized "HummingSetModel") 15 (by decide +kernel) rfl⟩
set_option maxRecDepth 100000 in
theorem zin155 : Cond.instanceMethod (zy 155) ∈ zWS := zmW (w := Cond.instanceMethod zy155) 1093 (by decide +kernel) rfl
set_option maxRecDepth 100000 in
theorem zse155 : Cond.selects zC12 (zy 155) (zy 155) ∈ zWS := zmW (w := Cond.selects zC12 zy155 zy155) 1094 (by decide +kernel) rfl
set_option maxRecDepth 100000 in
theorem zmk_HummingSetLaw_89 : zmm "HummingSetLaw" 89 zy155 := Or.inl (zmW 1092 (by decide +kernel) rfl)
set_option maxRecDepth 100000 in
theorem zca87 : zcal 87 2 := ⟨by decide +kernel, zcw87, by decide +kernel, by decide +kernel, zmW (w := Cond.initialized "HummingSet") 1 (by decide +kernel) rfl⟩
set_option maxRecDepth 100000 in
theorem zin87 : Cond.instanceMethod (zy 87) ∈ zWS := zmW (w := Cond.instanceMethod zy87) 642 (by decide +kernel) rfl
set_option maxRecDepth 100000 in
theorem zse87 : Cond.selects zC11 (zy 87) (zy 87) ∈ zWS := zmW (w := Cond.selects zC11 zy87 zy87) 643 (by decide +kernel) rfl
set_option maxRecDepth 100000 in
theorem zmk_HummingSetLaw_90 : zmm "HummingSetLaw" 90 zy87 := Or.inl (zmW 641 (by decide +kernel) rfl)
set_option maxRecDepth 100000 in
theorem zca158 : zcal 158 2 := ⟨by decide +kernel, zcw158, by decide +kernel, by decide +kernel, zmW (w := Cond.initialized "HummingSetModel") 15 (by decide +kernel) rfl⟩
set_option maxRecDepth 100000 in
theorem zin158 : Cond.instanceMethod (zy 158) ∈ zWS := zmW (w := Cond.instanceMethod zy158) 1097 (by decide +kernel) rfl
set_option maxRecDepth 100000 in
theorem zse158 : Cond.selects zC12 (zy 158) (zy 158) ∈ zWS := zmW (w := Cond.selects zC12 zy158 zy158) 1098 (by decide +kernel) rfl
set_option maxRecDepth 100000 in
theorem zmk_HummingSetLaw_93 : zmm "HummingSetLaw" 93 zy158 := Or.inl (zmW 1096 (by decide +kernel) rfl)
set_option maxRecDepth 100000 in
theorem zca88 : zcal 88 2 := ⟨by decide +kernel, zcw88, by decide +kernel, by decide +kernel, zmW (w := Cond.initialized "HummingSet") 1 (by decide +kernel) rfl⟩
set_option maxRecDepth 100000 in
theorem zin88 : Cond.instanceMethod (zy 88) ∈ zWS := zmW (w := Cond.instanceMethod zy88) 670 (by decide +kernel) rfl
set_option maxRecDepth 100000 in
theorem zse88 : Cond.selects zC11 (zy 88) (zy 88) ∈ zWS := zmW (w := Cond.selects zC11 zy88 zy88) 671 (by decide +kernel) rfl
set_option maxRecDepth 100000 in
theorem zmk_HummingSetLaw_94 : zmm "HummingSetLaw" 94 zy88 := Or.inl (zmW 669 (by decide +kernel) rfl)
set_option maxRecDepth 100000 in
theorem zca161 : zcal 161 2 := ⟨by decide +kernel, zcw161, by decide +kernel, by decide +kernel, zmW (w := Cond.initialized "HummingSetModel") 15 (by decide +kernel) rfl⟩
set_option maxRecDepth 100000 in
theorem zin161 : Cond.instanceMethod (zy 161) ∈ zWS := zmW (w := Cond.instanceMethod zy161) 1108 (by decide +kernel) rfl
set_option maxRecDepth 100000 in
theorem zse161 : Cond.selects zC12 (zy 161) (zy 161) ∈ zWS := zmW (w := Cond.selects zC12 zy161 zy161) 1109 (by decide +kernel) rfl
set_option maxRecDepth 100000 in
theorem zmk_HummingSetLaw_97 : zmm "HummingSetLaw" 97 zy161 := Or.inl (zmW 1107 (by decide +kernel) rfl)
set_option maxRecDepth 100000 in
theorem zca89 : zcal 89 1 := ⟨by decide +kernel, zcw89, by decide +kernel, by decide +kernel, zmW (w := Cond.initialized "HummingSet") 1 (by decide +kernel) rfl⟩
set_option maxRecDepth 100000 in
theorem zin89 : Cond.instanceMethod (zy 89) ∈ zWS := zmW (w := Cond.instanceMethod zy89) 688 (by decide +kernel) rfl
set_option maxRecDepth 100000 in
theorem zse89 : Cond.selects zC11 (zy 89) (zy 89) ∈ zWS := zmW (w := Cond.selects zC11 zy89 zy89) 689 (by decide +kernel) rfl
set_option maxRecDepth 100000 in
theorem zmk_HummingSetLaw_98 : zmm "HummingSetLaw" 98 zy89 := Or.inl (zmW 687 (by decide +kernel) rfl)
set_option maxRecDepth 100000 in
theorem zca164 : zcal 164 1 := ⟨by decide +kernel, zcw164, by decide +kernel, by decide +kernel, zmW (w := Cond.initialized "HummingSetModel") 15 (by decide +kernel) rfl⟩
set_option maxRecDepth 100000 in
theorem zin164 : Cond.instanceMethod (zy 164) ∈ zWS := zmW (w := Cond.instanceMethod zy164) 1121 (by decide +kernel) rfl
set_option maxRecDepth 100000 in
theorem zse164 : Cond.selects zC12 (zy 164) (zy 164) ∈ zWS := zmW (w := Cond.selects zC12 zy164 zy164) 1122 (by decide +kernel) rfl
set_option maxRecDepth 100000 in
theorem zmk_HummingSetLaw_101 : zmm "HummingSetLaw" 101 zy164 := Or.inl (zmW 1120 (by decide +kernel) rfl)
set_option maxRecDepth 100000 in
theorem zca90 : zcal 90 1 := ⟨by decide +kernel, zcw90, by decide +kernel, by decide +kernel, zmW (w := Cond.initialized "HummingSet") 1 (by decide +kernel) rfl⟩
set_option maxRecDepth 100000 in
theorem zin90 : Cond.instanceMethod (zy 90) ∈ zWS := zmW (w := Cond.instanceMethod zy90) 701 (by decide +kernel) rfl
set_option maxRecDepth 100000 in
theorem zse90 : Cond.selects zC11 (zy 90) (zy 90) ∈ zWS := zmW (w := Cond.selects zC11 zy90 zy90) 702 (by decide +kernel) rfl
set_option maxRecDepth 100000 in
theorem zmk_HummingSetLaw_102 : zmm "HummingSetLaw" 102 zy90 := Or.inl (zmW 700 (by decide +kernel) rfl)
set_option maxRecDepth 100000 in
theorem zca165 : zcal 165 1 := ⟨by decide +kernel, zcw165, by decide +kernel, by decide +kernel, zmW (w := Cond.initialized "HummingSetModel") 15 (by decide +kernel) rfl⟩
set_option maxRecDepth 100000 in
theorem zin165 : Cond.instanceMethod (zy 165) ∈ zWS := zmW (w := Cond.instanceMethod zy165) 1133 (by decide +kernel) rfl
set_option maxRecDepth 100000 in
theorem zse165 : Cond.selects zC12 (zy 165) (zy 165) ∈ zWS := zmW (w := Cond.selects zC12 zy165 zy165) 1134 (by decide +kernel) rfl
set_option maxRecDepth 100000 in
theorem zmk_HummingSetLaw_106 : zmm "HummingSetLaw" 106 zy165 := Or.inl (zmW 1132 (by decide +kernel) rfl)
set_option maxRecDepth 100000 in
theorem zca91 : zcal 91 0 := ⟨by decide +kernel, zcw91, by decide +kernel, by decide +kernel, zmW (w := Cond.initialized "HummingSet") 1 (by decide +kernel) rfl⟩
set_option maxRecDepth 100000 in
theorem zin91 : Cond.instanceMethod (zy 91) ∈ zWS := zmW (w := Cond.instanceMethod zy91) 709 (by decide +kernel) rfl
set_option maxRecDepth 100000 in
theorem zse91 : Cond.selects zC11 (zy 91) (zy 91) ∈ zWS := zmW (w := Cond.selects zC11 zy91 zy91) 710 (by decide +kernel) rfl
set_option maxRecDepth 100000 in
theorem zmk_HummingSetLaw_107 : zmm "HummingSetLaw" 107 zy91 := Or.inl (zmW 708 (by decide +kernel) rfl)
set_option maxRecDepth 100000 in
theorem zca166 : zcal 166 0 := ⟨by decide +kernel, zcw166, by decide +kernel, by decide +kernel, zmW (w := Cond.initialized "HummingSetModel") 15 (by decide +kernel) rfl⟩
set_option maxRecDepth 100000 in
theorem zin166 : Cond.instanceMethod (zy 166) ∈ zWS := zmW (w := Cond.instanceMethod zy166) 1141 (by decide +kernel) rfl
set_option maxRecDepth 100000 in
theorem zse166 : Cond.selects zC12 (zy 166) (zy 166) ∈ zWS := zmW (w := Cond.selects zC12 zy166 zy166) 1142 (by decide +kernel) rfl
set_option maxRecDepth 100000 in
theorem zmk_HummingSetLaw_110 : zmm "HummingSetLaw" 110 zy166 := Or.inl (zmW 1140 (by decide +kernel) rfl)
set_option maxRecDepth 100000 in
theorem zca92 : zcal 92 2 := ⟨by decide +kernel, zcw92, by decide +kernel, by decide +kernel, zmW (w := Cond.initialized "HummingSet") 1 (by decide +kernel) rfl⟩
set_option maxRecDepth 100000 in
theorem zin92 : Cond.instanceMethod (zy 92) ∈ zWS := zmW (w := Cond.instanceMethod zy92) 723 (by decide +kernel) rfl
set_option maxRecDepth 100000 in
theorem zse92 : Cond.selects zC11 (zy 92) (zy 92) ∈ zWS := zmW (w := Cond.selects zC11 zy92 zy92) 724 (by decide +kernel) rfl
set_option maxRecDepth 100000 in
theorem zmk_HummingSetLaw_111 : zmm "HummingSetLaw" 111 zy92 := Or.inl (zmW 722 (by decide +kernel) rfl)
set_option maxRecDepth 100000 in
theorem zca168 : zcal 168 2 := ⟨by decide +kernel, zcw168, by decide +kernel, by decide +kernel, zmW (w := Cond.initialized "HummingSetModel") 15 (by decide +kernel) rfl⟩
set_option maxRecDepth 100000 in
theorem zin168 : Cond.instanceMethod (zy 168) ∈ zWS := zmW (w := Cond.instanceMethod zy168) 1146 (by decide +kernel) rfl
set_option maxRecDepth 100000 in
theorem zse168 : Cond.selects zC12 (zy 168) (zy 168) ∈ zWS := zmW (w := Cond.selects zC12 zy168 zy168) 1147 (by decide +kernel) rfl
set_option maxRecDepth 100000 in
theorem zmk_HummingSetLaw_114 : zmm "HummingSetLaw" 114 zy168 := Or.inl (zmW 1145 (by decide +kernel) rfl)
set_option maxRecDepth 100000 in
theorem zca93 : zcal 93 1 := ⟨by decide +kernel, zcw93, by decide +kernel, by decide +kernel, zmW (w := Cond.initialized "HummingSet") 1 (by decide +kernel) rfl⟩
set_option maxRecDepth 100000 in
theorem zin93 : Cond.instanceMethod (zy 93) ∈ zWS := zmW (w := Cond.instanceMethod zy93) 733 (by decide +kernel) rfl
set_option maxRecDepth 100000 in
theorem zse93 : Cond.selects zC11 (zy 93) (zy 93) ∈ zWS := zmW (w := Cond.selects zC11 zy93 zy93) 734 (by decide +kernel) rfl
set_option maxRecDepth 100000 in
theorem zmk_HummingSetLaw_115 : zmm "HummingSetLaw" 115 zy93 := Or.inl (zmW 732 (by decide +kernel) rfl)
set_option maxRecDepth 100000 in
theorem zca169 : zcal 169 1 := ⟨by decide +kernel, zcw169, by decide +kernel, by decide +kernel, zmW (w := Cond.initialized "HummingSetModel") 15 (by decide +kernel) rfl⟩
set_option maxRecDepth 100000 in
theorem zin169 : Cond.instanceMethod (zy 169) ∈ zWS := zmW (w := Cond.instanceMethod zy169) 1156 (by decide +kernel) rfl
set_option maxRecDepth 100000 in
theorem zse169 : Cond.selects zC12 (zy 169) (zy 169) ∈ zWS := zmW (w := Cond.selects zC12 zy169 zy169) 1157 (by decide +kernel) rfl
set_option maxRecDepth 100000 in
theorem zmk_HummingSetLaw_118 : zmm "HummingSetLaw" 118 zy169 := Or.inl (zmW 1155 (by decide +kernel) rfl)
set_option maxRecDepth 100000 in
theorem zca94 : zcal 94 1 := ⟨by decide +kernel, zcw94, by decide +kernel, by decide +kernel, zmW (w := Cond.initialized "HummingSet") 1 (by decide +kernel) rfl⟩
set_option maxRecDepth 100000 in
theorem zin94 : Cond.instanceMethod (zy 94) ∈ zWS := zmW (w := Cond.instanceMethod zy94) 737 (by decide +kernel) rfl
set_option maxRecDepth 100000 in
theorem zse94 : Cond.selects zC11 (zy 94) (zy 94) ∈ zWS := zmW (w := Cond.selects zC11 zy94 zy94) 738 (by decide +kernel) rfl
set_option maxRecDepth 100000 in
theorem zmk_HummingSetLaw_119 : zmm "HummingSetLaw" 119 zy94 := Or.inl (zmW 736 (by decide +kernel) rfl)
set_option maxRecDepth 100000 in
theorem zca170 : zcal 170 1 := ⟨by decide +kernel, zcw170, by decide +kernel, by decide +kernel, zmW (w := Cond.initialized "HummingSetModel") 15 (by decide +kernel) rfl⟩
set_option maxRecDepth 100000 in
theorem zin170 : Cond.instanceMethod (zy 170) ∈ zWS := zmW (w := Cond.instanceMethod zy170) 1160 (by decide +kernel) rfl
set_option maxRecDepth 100000 in
theorem zse170 : Cond.selects zC12 (zy 170) (zy 170) ∈ zWS := zmW (w := Cond.selects zC12 zy170 zy170) 1161 (by decide +kernel) rfl
set_option maxRecDepth 100000 in
theorem zmk_HummingSetLaw_122 : zmm "HummingSetLaw" 122 zy170 := Or.inl (zmW 1159 (by decide +kernel) rfl)
set_option maxRecDepth 100000 in
theorem zca95 : zcal 95 0 := ⟨by decide +kernel, zcw95, by decide +kernel, by decide +kernel, zmW (w := Cond.initialized "HummingSet") 1 (by decide +kernel) rfl⟩
set_option maxRecDepth 100000 in
theorem zin95 : Cond.instanceMethod (zy 95) ∈ zWS := zmW (w := Cond.instanceMethod zy95) 745 (by decide +kernel) rfl
set_option maxRecDepth 100000 in
theorem zse95 : Cond.selects zC11 (zy 95) (zy 95) ∈ zWS := zmW (w := Cond.selects zC11 zy95 zy95) 746 (by decide +kernel) rfl
set_option maxRecDepth 100000 in
theorem zmk_HummingSetLaw_123 : zmm "HummingSetLaw" 123 zy95 := Or.inl (zmW 744 (by decide +kernel) rfl)
set_option maxRecDepth 100000 in
theorem zca172 : zcal 172 0 := ⟨by decide +kernel, zcw172, by decide +kernel, by decide +kernel, zmW (w := Cond.initialized "HummingSetModel") 15 (by decide +kernel) rfl⟩
set_option maxRecDepth 100000 in
theorem zin172 : Cond.instanceMethod (zy 172) ∈ zWS := zmW (w := Cond.instanceMethod zy172) 1168 (by decide +kernel) rfl
set_option maxRecDepth 100000 in
theorem zse172 : Cond.selects zC12 (zy 172) (zy 172) ∈ zWS := zmW (w := Cond.selects zC12 zy172 zy172) 1169 (by decide +kernel) rfl
set_option maxRecDepth 100000 in
theorem zmk_HummingSetLaw_126 : zmm "HummingSetLaw" 126 zy172 := Or.inl (zmW 1167 (by decide +kernel) rfl)
set_option maxRecDepth 100000 in
theorem zca96 : zcal 96 0 := ⟨by decide +kernel, zcw96, by decide +kernel, by decide +kernel, zmW (w := Cond.initialized "HummingSet") 1 (by decide +kernel) rfl⟩
set_option maxRecDepth 100000 in
theorem zin96 : Cond.instanceMethod (zy 96) ∈ zWS := zmW (w := Cond.instanceMethod zy96) 754 (by decide +kernel) rfl
set_option maxRecDepth 100000 in
theorem zse96 : Cond.selects zC11 (zy 96) (zy 96) ∈ zWS := zmW (w := Cond.selects zC11 zy96 zy96) 755 (by decide +kernel) rfl
set_option maxRecDepth 100000 in
theorem zmk_HummingSetLaw_127 : zmm "HummingSetLaw" 127 zy96 := Or.inl (zmW 753 (by decide +kernel) rfl)
set_option maxRecDepth 100000 in
theorem zca173 : zcal 173 0 := ⟨by decide +kernel, zcw173, by decide +kernel, by decide +kernel, zmW (w := Cond.initialized "HummingSetModel") 15 (by decide +kernel) rfl⟩
set_option maxRecDepth 100000 in
theorem zin173 : Cond.instanceMethod (zy 173) ∈ zWS := zmW (w := Cond.instanceMethod zy173) 1176 (by decide +kernel) rfl
set_option maxRecDepth 100000 in
theorem zse173 : Cond.selects zC12 (zy 173) (zy 173) ∈ zWS := zmW (w := Cond.selects zC12 zy173 zy173) 1177 (by decide +kernel) rfl
set_option maxRecDepth 100000 in
theorem zmk_HummingSetLaw_130 : zmm "HummingSetLaw" 130 zy173 := Or.inl (zmW 1175 (by decide +kernel) rfl)
set_option maxRecDepth 100000 in
theorem zca97 : zcal 97 1 := ⟨by decide +kernel, zcw97, by decide +kernel, by decide +kernel, zmW (w := Cond.initialized "HummingSet") 1 (by decide +kernel) rfl⟩
set_option maxRecDepth 100000 in
theorem zin97 : Cond.instanceMethod (zy 97) ∈ zWS := zmW (w := Cond.instanceMethod zy97) 758 (by decide +kernel) rfl
set_option maxRecDepth 100000 in
theorem zse97 : Cond.selects zC11 (zy 97) (zy 97) ∈ zWS := zmW (w := Cond.selects zC11 zy97 zy97) 759 (by decide +kernel) rfl
set_option maxRecDepth 100000 in
theorem zmk_HummingSetLaw_131 : zmm "HummingSetLaw" 131 zy97 := Or.inl (zmW 757 (by decide +kernel) rfl)
set_option maxRecDepth 100000 in
theorem zca174 : zcal 174 1 := ⟨by decide +kernel, zcw174, by decide +kernel, by decide +kernel, zmW (w := Cond.initialized "HummingSetModel") 15 (by decide +kernel) rfl⟩
set_option maxRecDepth 100000 in
theorem zin174 : Cond.instanceMethod (zy 174) ∈ zWS := zmW (w := Cond.instanceMethod zy174) 1180 (by decide +kernel) rfl
set_option maxRecDepth 100000 in
theorem zse174 : Cond.selects zC12 (zy 174) (zy 174) ∈ zWS := zmW (w := Cond.selects zC12 zy174 zy174) 1181 (by decide +kernel) rfl
set_option maxRecDepth 100000 in
theorem zmk_HummingSetLaw_134 : zmm "HummingSetLaw" 134 zy174 := Or.inl (zmW 1179 (by decide +kernel) rfl)
end
section
-- HummingSet$Answers.<init>()V
def zc0 : List (Nat × ZIns) := []
theorem zs0 : ∀ q ∈ zc0, zSn 0 q := fun _ h => absurd h List.not_mem_nil
-- HummingSet$Answers.add(IIII)V
def zc1 : List (Nat × ZIns) := [(0, z_al 0 1), (1, z_gI 0 4), (4, z_ic 10 2), (6, z_ige 60), (9, z_al 0 1), (10, z_gR 0 0), (13, z_al 0 1), (14, z_gI 0 4), (17, z_il 1 1), (18, z_iast), (19, z_al 0 1), (20, z_gR 0 1), (23, z_al 0 1), (24, z_gI 0 4), (27, z_il 2 1), (28, z_iast), (29, z_al 0 1), (30, z_gR 0 2), (33, z_al 0 1), (34, z_gI 0 4), (37, z_il 3 1), (38, z_iast), (39, z_al 0 1), (40, z_gR 0 3), (43, z_al 0 1), (44, z_gI 0 4), (47, z_il 4 2), (49, z_iast), (50, z_al 0 1), (51, z_dup), (52, z_gI 0 4), (55, z_ic 1 1), (56, z_iadd), (57, z_pI 0 4), (60, z_vr)]
set_option maxRecDepth 100000 in
set_option maxHeartbeats 4000000 in
theorem zs1_0 : ∀ q ∈ ([(0, z_al 0 1), (1, z_gI 0 4), (4, z_ic 10 2), (6, z_ige 60), (9, z_al 0 1), (10, z_gR 0 0), (13, z_al 0 1), (14, z_gI 0 4), (17, z_il 1 1), (18, z_iast), (19, z_al 0 1), (20, z_gR 0 1), (23, z_al 0 1), (24, z_gI 0 4), (27, z_il 2 1), (28, z_iast), (29, z_al 0 1), (30, z_gR 0 2), (33, z_al 0 1), (34, z_gI 0 4), (37, z_il 3 1), (38, z_iast), (39, z_al 0 1), (40, z_gR 0 3), (43, z_al 0 1), (44, z_gI 0 4), (47, z_il 4 2), (49, z_iast), (50, z_al 0 1), (51, z_dup), (52, z_gI 0 4), (55, z_ic 1 1), (56, z_iadd), (57, z_pI 0 4), (60, z_vr)] : List (Nat × ZIns)), zSn 1 q := List.forall_mem_cons.mpr ⟨w_aload_n (by decide +kernel : decode (zb 1) 0 = .ok (.aload_n 0, 1)) rfl, List.forall_mem_cons.mpr ⟨w_gI zw1 (j := 4) zo0 (by decide +kernel) zfk_HummingSet_Answers_24 rfl (by decide +kernel : decode (zb 1) 1 = .ok (.getfield 24, 3)), List.forall_mem_cons.mpr ⟨w_bipush (by decide +kernel : decode (zb 1) 4 = .ok (.bipush 10, 2)) rfl, List.forall_mem_cons.mpr ⟨w_ige (by decide +kernel : decode (zb 1) 6 = .ok (.if_icmp .ge 54, 3)) rfl, List.forall_mem_cons.mpr ⟨w_aload_n (by decide +kernel : decode (zb 1) 9 = .ok (.aload_n 0, 1)) rfl, List.forall_mem_cons.mpr ⟨w_gR zw1 (j := 0) zo0 (by decide +kernel) zfk_HummingSet_Answers_9 rfl (by decide +kernel : decode (zb 1) 10 = .ok (.getfield 9, 3)), List.forall_mem_cons.mpr ⟨w_aload_n (by decide +kernel : decode (zb 1) 13 = .ok (.aload_n 0, 1)) rfl, List.forall_mem_cons.mpr ⟨w_gI zw1 (j := 4) zo0 (by decide +kernel) zfk_HummingSet_Answers_24 rfl (by decide +kernel : decode (zb 1) 14 = .ok (.getfield 24, 3)), List.forall_mem_cons.mpr ⟨w_iload_n (by decide +kernel : decode (zb 1) 17 = .ok (.iload_n 1, 1)) rfl, List.forall_mem_cons.mpr ⟨w_iast (by decide +kernel : decode (zb 1) 18 = .ok (.iastore, 1)), List.forall_mem_cons.mpr ⟨w_aload_n (by decide +kernel : decode (zb 1) 19 = .ok (.aload_n 0, 1)) rfl, List.forall_mem_cons.mpr ⟨w_gR zw1 (j := 1) zo0 (by decide +kernel) zfk_HummingSet_Answers_15 rfl (by decide +kernel : decode (zb 1) 20 = .ok (.getfield 15, 3)), List.forall_mem_cons.mpr ⟨w_aload_n (by decide +kernel : decode (zb 1) 23 = .ok (.aload_n 0, 1)) rfl, List.forall_mem_cons.mpr ⟨w_gI zw1 (j := 4) zo0 (by decide +kernel) zfk_HummingSet_Answers_24 rfl (by decide +kernel : decode (zb 1) 24 = .ok (.getfield 24, 3)), List.forall_mem_cons.mpr ⟨w_iload_n (by decide +kernel : decode (zb 1) 27 = .ok (.iload_n 2, 1)) rfl, List.forall_mem_cons.mpr ⟨w_iast (by decide +kernel : decode (zb 1) 28 = .ok (.iastore, 1)), List.forall_mem_cons.mpr ⟨w_aload_n (by decide +kernel : decode (zb 1) 29 = .ok (.aload_n 0, 1)) rfl, List.forall_mem_cons.mpr ⟨w_gR zw1 (j := 2) zo0 (by decide +kernel) zfk_HummingSet_Answers_18 rfl (by decide +kernel : decode (zb 1) 30 = .ok (.getfield 18, 3)), List.forall_mem_cons.mpr ⟨w_aload_n (by decide +kernel : decode (zb 1) 33 = .ok (.aload_n 0, 1)) rfl, List.forall_mem_cons.mpr ⟨w_gI zw1 (j := 4) zo0 (by decide +kernel) zfk_HummingSet_Answers_24 rfl (by decide +kernel : decode (zb 1) 34 = .ok (.getfield 24, 3)), List.forall_mem_cons.mpr ⟨w_iload_n (by decide +kernel : decode (zb 1) 37 = .ok (.iload_n 3, 1)) rfl, List.forall_mem_cons.mpr ⟨w_iast (by decide +kernel : decode (zb 1) 38 = .ok (.iastore, 1)), List.forall_mem_cons.mpr ⟨w_aload_n (by decide +kernel : decode (zb 1) 39 = .ok (.aload_n 0, 1)) rfl, List.forall_mem_cons.mpr ⟨w_gR zw1 (j := 3) zo0 (by decide +kernel) zfk_HummingSet_Answers_21 rfl (by decide +kernel : decode (zb 1) 40 = .ok (.getfield 21, 3)), List.forall_mem_cons.mpr ⟨w_aload_n (by decide +kernel : decode (zb 1) 43 = .ok (.aload_n 0, 1)) rfl, List.forall_mem_cons.mpr ⟨w_gI zw1 (j := 4) zo0 (by decide +kernel) zfk_HummingSet_Answers_24 rfl (by decide +kernel : decode (zb 1) 44 = .ok (.getfield 24, 3)), List.forall_mem_cons.mpr ⟨w_iload (by decide +kernel : decode (zb 1) 47 = .ok (.iload 4, 2)), List.forall_mem_cons.mpr ⟨w_iast (by decide +kernel : decode (zb 1) 49 = .ok (.iastore, 1)), List.forall_mem_cons.mpr ⟨w_aload_n (by decide +kernel : decode (zb 1) 50 = .ok (.aload_n 0, 1)) rfl, List.forall_mem_cons.mpr ⟨w_dup (by decide +kernel : decode (zb 1) 51 = .ok (.dup, 1)), List.forall_mem_cons.mpr ⟨w_gI zw1 (j := 4) zo0 (by decide +kernel) zfk_HummingSet_Answers_24 rfl (by decide +kernel : decode (zb 1) 52 = .ok (.getfield 24, 3)), List.forall_mem_cons.mpr ⟨w_iconst (by decide +kernel : decode (zb 1) 55 = .ok (.iconst 1, 1)) rfl, List.forall_mem_cons.mpr ⟨w_iadd (by decide +kernel : decode (zb 1) 56 = .ok (.iadd, 1)), List.forall_mem_cons.mpr ⟨w_pI zw1 (j := 4) zo0 (by decide +kernel) zfk_HummingSet_Answers_24 rfl rfl rfl (by decide +kernel : decode (zb 1) 57 = .ok (.putfield 24, 3)), List.forall_mem_cons.mpr ⟨w_vr (by decide +kernel : decode (zb 1) 60 = .ok (.return_, 1)) rfl, fun _ h => absurd h List.not_mem_nil⟩⟩⟩⟩⟩⟩⟩⟩⟩⟩⟩⟩⟩⟩⟩⟩⟩⟩⟩⟩⟩⟩⟩⟩⟩⟩⟩⟩⟩⟩⟩⟩⟩⟩⟩
theorem zs1 : ∀ q ∈ zc1, zSn 1 q := zs1_0
-- HummingSet$Answers.copyFrom(LHummingSet$Answers;)V
def zc2 : List (Nat × ZIns) := [(0, z_al 0 1), (1, z_ic 0 1), (2, z_pI 0 4), (5, z_ic 0 1), (6, z_is 2 1), (7, z_il 2 1), (8, z_al 1 1), (9, z_gI 0 4), (12, z_ige 49), (15, z_al 0 1), (16, z_al 1 1), (17, z_gR 0 0), (20, z_il 2 1), (21, z_iald 20), (22, z_al 1 1), (23, z_gR 0 1), (26, z_il 2 1), (27, z_iald 20), (28, z_al 1 1), (29, z_gR 0 2), (32, z_il 2 1), (33, z_iald 20), (34, z_al 1 1), (35, z_gR 0 3), (38, z_il 2 1), (39, z_iald 20), (40, z_cV 0 1 5 4), (43, z_inc 2 1), (46, z_goto 7), (49, z_vr)]
set_option maxRecDepth 100000 in
set_option maxHeartbeats 4000000 in
theorem zs2_0 : ∀ q ∈ ([(0, z_al 0 1), (1, z_ic 0 1), (2, z_pI 0 4), (5, z_ic 0 1), (6, z_is 2 1), (7, z_il 2 1), (8, z_al 1 1), (9, z_gI 0 4), (12, z_ige 49), (15, z_al 0 1), (16, z_al 1 1), (17, z_gR 0 0), (20, z_il 2 1), (21, z_iald 20), (22, z_al 1 1), (23, z_gR 0 1), (26, z_il 2 1), (27, z_iald 20), (28, z_al 1 1), (29, z_gR 0 2), (32, z_il 2 1), (33, z_iald 20), (34, z_al 1 1), (35, z_gR 0 3), (38, z_il 2 1), (39, z_iald 20), (40, z_cV 0 1 5 4), (43, z_inc 2 1), (46, z_goto 7), (49, z_vr)] : List (Nat × ZIns)), zSn 2 q := List.forall_mem_cons.mpr ⟨w_aload_n (by decide +kernel : decode (zb 2) 0 = .ok (.aload_n 0, 1)) rfl, List.forall_mem_cons.mpr ⟨w_iconst (by decide +kernel : decode (zb 2) 1 = .ok (.iconst 0, 1)) rfl, List.forall_mem_cons.mpr ⟨w_pI zw2 (j := 4) zo0 (by decide +kernel) zfk_HummingSet_Answers_24 rfl rfl rfl (by decide +kernel : decode (zb 2) 2 = .ok (.putfield 24, 3)), List.forall_mem_cons.mpr ⟨w_iconst (by decide +kernel : decode (zb 2) 5 = .ok (.iconst 0, 1)) rfl, List.forall_mem_cons.mpr ⟨w_istore_n (by decide +kernel : decode (zb 2) 6 = .ok (.istore_n 2, 1)) rfl, List.forall_mem_cons.mpr ⟨w_iload_n (by decide +kernel : decode (zb 2) 7 = .ok (.iload_n 2, 1)) rfl, List.forall_mem_cons.mpr ⟨w_aload_n (by decide +kernel : decode (zb 2) 8 = .ok (.aload_n 1, 1)) rfl, List.forall_mem_cons.mpr ⟨w_gI zw2 (j := 4) zo0 (by decide +kernel) zfk_HummingSet_Answers_24 rfl (by decide +kernel : decode (zb 2) 9 = .ok (.getfield 24, 3)), List.forall_mem_cons.mpr ⟨w_ige (by decide +kernel : decode (zb 2) 12 = .ok (.if_icmp .ge 37, 3)) rfl, List.forall_mem_cons.mpr ⟨w_aload_n (by decide +kernel : decode (zb 2) 15 = .ok (.aload_n 0, 1)) rfl, List.forall_mem_cons.mpr ⟨w_aload_n (by decide +kernel : decode (zb 2) 16 = .ok (.aload_n 1, 1)) rfl, List.forall_mem_cons.mpr ⟨w_gR zw2 (j := 0) zo0 (by decide +kernel) zfk_HummingSet_Answers_9 rfl (by decide +kernel : decode (zb 2) 17 = .ok (.getfield 9, 3)), List.forall_mem_cons.mpr ⟨w_iload_n (by decide +kernel : decode (zb 2) 20 = .ok (.iload_n 2, 1)) rfl, List.forall_mem_cons.mpr ⟨w_iald (by decide +kernel : decode (zb 2) 21 = .ok (.iaload, 1)), List.forall_mem_cons.mpr ⟨w_aload_n (by decide +kernel : decode (zb 2) 22 = .ok (.aload_n 1, 1)) rfl, List.forall_mem_cons.mpr ⟨w_gR zw2 (j := 1) zo0 (by decide +kernel) zfk_HummingSet_Answers_15 rfl (by decide +kernel : decode (zb 2) 23 = .ok (.getfield 15, 3)), List.forall_mem_cons.mpr ⟨w_iload_n (by decide +kernel : decode (zb 2) 26 = .ok (.iload_n 2, 1)) rfl, List.forall_mem_cons.mpr ⟨w_iald (by decide +kernel : decode (zb 2) 27 = .ok (.iaload, 1)), List.forall_mem_cons.mpr ⟨w_aload_n (by decide +kernel : decode (zb 2) 28 = .ok (.aload_n 1, 1)) rfl, List.forall_mem_cons.mpr ⟨w_gR zw2 (j := 2) zo0 (by decide +kernel) zfk_HummingSet_Answers_18 rfl (by decide +kernel : decode (zb 2) 29 = .ok (.getfield 18, 3)), List.forall_mem_cons.mpr ⟨w_iload_n (by decide +kernel : decode (zb 2) 32 = .ok (.iload_n 2, 1)) rfl, List.forall_mem_cons.mpr ⟨w_iald (by decide +kernel : decode (zb 2) 33 = .ok (.iaload, 1)), List.forall_mem_cons.mpr ⟨w_aload_n (by decide +kernel : decode (zb 2) 34 = .ok (.aload_n 1, 1)) rfl, List.forall_mem_cons.mpr ⟨w_gR zw2 (j := 3) zo0 (by decide +kernel) zfk_HummingSet_Answers_21 rfl (by decide +kernel : decode (zb 2) 35 = .ok (.getfield 21, 3)), List.forall_mem_cons.mpr ⟨w_iload_n (by decide +kernel : decode (zb 2) 38 = .ok (.iload_n 2, 1)) rfl, List.forall_mem_cons.mpr ⟨w_iald (by decide +kernel : decode (zb 2) 39 = .ok (.iaload, 1)), List.forall_mem_cons.mpr ⟨w_cV zw2 zo0 rfl rfl zin1 zse1 zca1 (by decide +kernel) (by decide +kernel) zmk_HummingSet_Answers_28 (by decide +kernel : decode (zb 2) 40 = .ok (.invokevirtual 28, 3)), List.forall_mem_cons.mpr ⟨w_iinc (by decide +kernel : decode (zb 2) 43 = .ok (.iinc 2 1, 3)) rfl, List.forall_mem_cons.mpr ⟨w_goto (by decide +kernel : decode (zb 2) 46 = .ok (.goto (-39), 3)) rfl, List.forall_mem_cons.mpr ⟨w_vr (by decide +kernel : decode (zb 2) 49 = .ok (.return_, 1)) rfl, fun _ h => absurd h List.not_mem_nil⟩⟩⟩⟩⟩⟩⟩⟩⟩⟩⟩⟩⟩⟩⟩⟩⟩⟩⟩⟩⟩⟩⟩⟩⟩⟩⟩⟩⟩⟩
theorem zs2 : ∀ q ∈ zc2, zSn 2 q := zs2_0
-- HummingSet$Bench.<init>()V
def zc3 : List (Nat × ZIns) := []
theorem zs3 : ∀ q ∈ zc3, zSn 3 q := fun _ h => absurd h List.not_mem_nil
-- HummingSet$Bench.play(LHummingSet$Wireless;IIII)V
def zc4 : List (Nat × ZIns) := [(0, z_al 0 1), (1, z_al 1 1), (2, z_il 2 1), (3, z_il 3 1), (4, z_cV 1 5 7 3), (7, z_al 1 1), (8, z_il 5 2), (10, z_cV 10 46 2 1), (13, z_ifeq 30), (16, z_al 0 1), (17, z_gR 1 0), (20, z_il 5 2), (22, z_aald 27), (23, z_ic 0 1), (24, z_dup2), (25, z_iald 20), (26, z_ic 100 2), (28, z_iadd), (29, z_iast), (30, z_ic 0 1), (31, z_is 6 2), (33, z_il 6 2), (35, z_ic 3 1), (36, z_ige 127), (39, z_ic 0 1), (40, z_is 7 2), (42, z_ic 0 1), (43, z_is 8 2), (45, z_il 8 2), (47, z_al 1 1), (48, z_gI 10 5), (51, z_ige 112), (54, z_al 0 1), (55, z_gR 1 0), (58, z_il 8 2), (60, z_aald 27), (61, z_il 6 2), (63, z_dup2), (64, z_iald 20), (65, z_il 7 2), (67, z_iadd), (68, z_iast), (69, z_il 8 2), (71, z_il 4 2), (73, z_ine 80), (76, z_ic 0 1), (77, z_goto 104), (80, z_al 0 1), (81, z_gR 1 0), (84, z_il 8 2), (86, z_aald 27), (87, z_il 6 2), (89, z_iald 20), (90, z_al 1 1), (91, z_gR 10 0), (94, z_il 8 2), (96, z_aald 24), (97, z_gI 7 1), (100, z_imul), (101, z_ic 10 2), (103, z_idiv), (104, z_is 7 2), (106, z_inc 8 1), (109, z_goto 45), (112, z_al 0 1), (113, z_gR 1 1), (116, z_il 6 2), (118, z_il 7 2), (120, z_iast), (121, z_inc 6 1), (124, z_goto 33), (127, z_vr)]
set_option maxRecDepth 100000 in
set_option maxHeartbeats 4000000 in
theorem zs4_0 : ∀ q ∈ ([(0, z_al 0 1), (1, z_al 1 1), (2, z_il 2 1), (3, z_il 3 1), (4, z_cV 1 5 7 3), (7, z_al 1 1), (8, z_il 5 2), (10, z_cV 10 46 2 1), (13, z_ifeq 30), (16, z_al 0 1), (17, z_gR 1 0), (20, z_il 5 2), (22, z_aald 27), (23, z_ic 0 1), (24, z_dup2), (25, z_iald 20), (26, z_ic 100 2), (28, z_iadd), (29, z_iast), (30, z_ic 0 1), (31, z_is 6 2), (33, z_il 6 2), (35, z_ic 3 1), (36, z_ige 127), (39, z_ic 0 1), (40, z_is 7 2), (42, z_ic 0 1), (43, z_is 8 2), (45, z_il 8 2), (47, z_al 1 1), (48, z_gI 10 5), (51, z_ige 112), (54, z_al 0 1), (55, z_gR 1 0), (58, z_il 8 2), (60, z_aald 27), (61, z_il 6 2), (63, z_dup2), (64, z_iald 20), (65, z_il 7 2)] : List (Nat × ZIns)), zSn 4 q := List.forall_mem_cons.mpr ⟨w_aload_n (by decide +kernel : decode (zb 4) 0 = .ok (.aload_n 0, 1)) rfl, List.forall_mem_cons.mpr ⟨w_aload_n (by decide +kernel : decode (zb 4) 1 = .ok (.aload_n 1, 1)) rfl, List.forall_mem_cons.mpr ⟨w_iload_n (by decide +kernel : decode (zb 4) 2 = .ok (.iload_n 2, 1)) rfl, List.forall_mem_cons.mpr ⟨w_iload_n (by decide +kernel : decode (zb 4) 3 = .ok (.iload_n 3, 1)) rfl, List.forall_mem_cons.mpr ⟨w_cV zw4 zo1 rfl rfl zin5 zse5 zca5 (by decide +kernel) (by decide +kernel) zmk_HummingSet_Bench_20 (by decide +kernel : decode (zb 4) 4 = .ok (.invokevirtual 20, 3)), List.forall_mem_cons.mpr ⟨w_aload_n (by decide +kernel : decode (zb 4) 7 = .ok (.aload_n 1, 1)) rfl, List.forall_mem_cons.mpr ⟨w_iload (by decide +kernel : decode (zb 4) 8 = .ok (.iload 5, 2)), List.forall_mem_cons.mpr ⟨w_cV zw4 zo10 rfl rfl zin46 zse46 zca46 (by decide +kernel) (by decide +kernel) zmk_HummingSet_Bench_24 (by decide +kernel : decode (zb 4) 10 = .ok (.invokevirtual 24, 3)), List.forall_mem_cons.mpr ⟨w_ifeq (by decide +kernel : decode (zb 4) 13 = .ok (.ifCond .eq 17, 3)) rfl, List.forall_mem_cons.mpr ⟨w_aload_n (by decide +kernel : decode (zb 4) 16 = .ok (.aload_n 0, 1)) rfl, List.forall_mem_cons.mpr ⟨w_gR zw4 (j := 0) zo1 (by decide +kernel) zfk_HummingSet_Bench_11 rfl (by decide +kernel : decode (zb 4) 17 = .ok (.getfield 11, 3)), List.forall_mem_cons.mpr ⟨w_iload (by decide +kernel : decode (zb 4) 20 = .ok (.iload 5, 2)), List.forall_mem_cons.mpr ⟨w_aald27 (by decide +kernel : decode (zb 4) 22 = .ok (.aaload, 1)), List.forall_mem_cons.mpr ⟨w_iconst (by decide +kernel : decode (zb 4) 23 = .ok (.iconst 0, 1)) rfl, List.forall_mem_cons.mpr ⟨w_dup2 (by decide +kernel : decode (zb 4) 24 = .ok (.dup2, 1)), List.forall_mem_cons.mpr ⟨w_iald (by decide +kernel : decode (zb 4) 25 = .ok (.iaload, 1)), List.forall_mem_cons.mpr ⟨w_bipush (by decide +kernel : decode (zb 4) 26 = .ok (.bipush 100, 2)) rfl, List.forall_mem_cons.mpr ⟨w_iadd (by decide +kernel : decode (zb 4) 28 = .ok (.iadd, 1)), List.forall_mem_cons.mpr ⟨w_iast (by decide +kernel : decode (zb 4) 29 = .ok (.iastore, 1)), List.forall_mem_cons.mpr ⟨w_iconst (by decide +kernel : decode (zb 4) 30 = .ok (.iconst 0, 1)) rfl, List.forall_mem_cons.mpr ⟨w_istore (by decide +kernel : decode (zb 4) 31 = .ok (.istore 6, 2)), List.forall_mem_cons.mpr ⟨w_iload (by decide +kernel : decode (zb 4) 33 = .ok (.iload 6, 2)), List.forall_mem_cons.mpr ⟨w_iconst (by decide +kernel : decode (zb 4) 35 = .ok (.iconst 3, 1)) rfl, List.forall_mem_cons.mpr ⟨w_ige (by decide +kernel : decode (zb 4) 36 = .ok (.if_icmp .ge 91, 3)) rfl, List.forall_mem_cons.mpr ⟨w_iconst (by decide +kernel : decode (zb 4) 39 = .ok (.iconst 0, 1)) rfl, List.forall_mem_cons.mpr ⟨w_istore (by decide +kernel : decode (zb 4) 40 = .ok (.istore 7, 2)), List.forall_mem_cons.mpr ⟨w_iconst (by decide +kernel : decode (zb 4) 42 = .ok (.iconst 0, 1)) rfl, List.forall_mem_cons.mpr ⟨w_istore (by decide +kernel : decode (zb 4) 43 = .ok (.istore 8, 2)), List.forall_mem_cons.mpr ⟨w_iload (by decide +kernel : decode (zb 4) 45 = .ok (.iload 8, 2)), List.forall_mem_cons.mpr ⟨w_aload_n (by decide +kernel : decode (zb 4) 47 = .ok (.aload_n 1, 1)) rfl, List.forall_mem_cons.mpr ⟨w_gI zw4 (j := 5) zo10 (by decide +kernel) zfk_HummingSet_Bench_30 rfl (by decide +kernel : decode (zb 4) 48 = .ok (.getfield 30, 3)), List.forall_mem_cons.mpr ⟨w_ige (by decide +kernel : decode (zb 4) 51 = .ok (.if_icmp .ge 61, 3)) rfl, List.forall_mem_cons.mpr ⟨w_aload_n (by decide +kernel : decode (zb 4) 54 = .ok (.aload_n 0, 1)) rfl, List.forall_mem_cons.mpr ⟨w_gR zw4 (j := 0) zo1 (by decide +kernel) zfk_HummingSet_Bench_11 rfl (by decide +kernel : decode (zb 4) 55 = .ok (.getfield 11, 3)), List.forall_mem_cons.mpr ⟨w_iload (by decide +kernel : decode (zb 4) 58 = .ok (.iload 8, 2)), List.forall_mem_cons.mpr ⟨w_aald27 (by decide +kernel : decode (zb 4) 60 = .ok (.aaload, 1)), List.forall_mem_cons.mpr ⟨w_iload (by decide +kernel : decode (zb 4) 61 = .ok (.iload 6, 2)), List.forall_mem_cons.mpr ⟨w_dup2 (by decide +kernel : decode (zb 4) 63 = .ok (.dup2, 1)), List.forall_mem_cons.mpr ⟨w_iald (by decide +kernel : decode (zb 4) 64 = .ok (.iaload, 1)), List.forall_mem_cons.mpr ⟨w_iload (by decide +kernel : decode (zb 4) 65 = .ok (.iload 7, 2)), fun _ h => absurd h List.not_mem_nil⟩⟩⟩⟩⟩⟩⟩⟩⟩⟩⟩⟩⟩⟩⟩⟩⟩⟩⟩⟩⟩⟩⟩⟩⟩⟩⟩⟩⟩⟩⟩⟩⟩⟩⟩⟩⟩⟩⟩⟩
set_option maxRecDepth 100000 in
set_option maxHeartbeats 4000000 in
theorem zs4_1 : ∀ q ∈ ([(67, z_iadd), (68, z_iast), (69, z_il 8 2), (71, z_il 4 2), (73, z_ine 80), (76, z_ic 0 1), (77, z_goto 104), (80, z_al 0 1), (81, z_gR 1 0), (84, z_il 8 2), (86, z_aald 27), (87, z_il 6 2), (89, z_iald 20), (90, z_al 1 1), (91, z_gR 10 0), (94, z_il 8 2), (96, z_aald 24), (97, z_gI 7 1), (100, z_imul), (101, z_ic 10 2), (103, z_idiv), (104, z_is 7 2), (106, z_inc 8 1), (109, z_goto 45), (112, z_al 0 1), (113, z_gR 1 1), (116, z_il 6 2), (118, z_il 7 2), (120, z_iast), (121, z_inc 6 1), (124, z_goto 33), (127, z_vr)] : List (Nat × ZIns)), zSn 4 q := List.forall_mem_cons.mpr ⟨w_iadd (by decide +kernel : decode (zb 4) 67 = .ok (.iadd, 1)), List.forall_mem_cons.mpr ⟨w_iast (by decide +kernel : decode (zb 4) 68 = .ok (.iastore, 1)), List.forall_mem_cons.mpr ⟨w_iload (by decide +kernel : decode (zb 4) 69 = .ok (.iload 8, 2)), List.forall_mem_cons.mpr ⟨w_iload (by decide +kernel : decode (zb 4) 71 = .ok (.iload 4, 2)), List.forall_mem_cons.mpr ⟨w_ine (by decide +kernel : decode (zb 4) 73 = .ok (.if_icmp .ne 7, 3)) rfl, List.forall_mem_cons.mpr ⟨w_iconst (by decide +kernel : decode (zb 4) 76 = .ok (.iconst 0, 1)) rfl, List.forall_mem_cons.mpr ⟨w_goto (by decide +kernel : decode (zb 4) 77 = .ok (.goto 27, 3)) rfl, List.forall_mem_cons.mpr ⟨w_aload_n (by decide +kernel : decode (zb 4) 80 = .ok (.aload_n 0, 1)) rfl, List.forall_mem_cons.mpr ⟨w_gR zw4 (j := 0) zo1 (by decide +kernel) zfk_HummingSet_Bench_11 rfl (by decide +kernel : decode (zb 4) 81 = .ok (.getfield 11, 3)), List.forall_mem_cons.mpr ⟨w_iload (by decide +kernel : decode (zb 4) 84 = .ok (.iload 8, 2)), List.forall_mem_cons.mpr ⟨w_aald27 (by decide +kernel : decode (zb 4) 86 = .ok (.aaload, 1)), List.forall_mem_cons.mpr ⟨w_iload (by decide +kernel : decode (zb 4) 87 = .ok (.iload 6, 2)), List.forall_mem_cons.mpr ⟨w_iald (by decide +kernel : decode (zb 4) 89 = .ok (.iaload, 1)), List.forall_mem_cons.mpr ⟨w_aload_n (by decide +kernel : decode (zb 4) 90 = .ok (.aload_n 1, 1)) rfl, List.forall_mem_cons.mpr ⟨w_gR zw4 (j := 0) zo10 (by decide +kernel) zfk_HummingSet_Bench_34 rfl (by decide +kernel : decode (zb 4) 91 = .ok (.getfield 34, 3)), List.forall_mem_cons.mpr ⟨w_iload (by decide +kernel : decode (zb 4) 94 = .ok (.iload 8, 2)), List.forall_mem_cons.mpr ⟨w_aald24 (by decide +kernel : decode (zb 4) 96 = .ok (.aaload, 1)), List.forall_mem_cons.mpr ⟨w_gI zw4 (j := 1) zo7 (by decide +kernel) zfk_HummingSet_Bench_38 rfl (by decide +kernel : decode (zb 4) 97 = .ok (.getfield 38, 3)), List.forall_mem_cons.mpr ⟨w_imul (by decide +kernel : decode (zb 4) 100 = .ok (.imul, 1)), List.forall_mem_cons.mpr ⟨w_bipush (by decide +kernel : decode (zb 4) 101 = .ok (.bipush 10, 2)) rfl, List.forall_mem_cons.mpr ⟨w_idiv (by decide +kernel : decode (zb 4) 103 = .ok (.idiv, 1)), List.forall_mem_cons.mpr ⟨w_istore (by decide +kernel : decode (zb 4) 104 = .ok (.istore 7, 2)), List.forall_mem_cons.mpr ⟨w_iinc (by decide +kernel : decode (zb 4) 106 = .ok (.iinc 8 1, 3)) rfl, List.forall_mem_cons.mpr ⟨w_goto (by decide +kernel : decode (zb 4) 109 = .ok (.goto (-64), 3)) rfl, List.forall_mem_cons.mpr ⟨w_aload_n (by decide +kernel : decode (zb 4) 112 = .ok (.aload_n 0, 1)) rfl, List.forall_mem_cons.mpr ⟨w_gR zw4 (j := 1) zo1 (by decide +kernel) zfk_HummingSet_Bench_16 rfl (by decide +kernel : decode (zb 4) 113 = .ok (.getfield 16, 3)), List.forall_mem_cons.mpr ⟨w_iload (by decide +kernel : decode (zb 4) 116 = .ok (.iload 6, 2)), List.forall_mem_cons.mpr ⟨w_iload (by decide +kernel : decode (zb 4) 118 = .ok (.iload 7, 2)), List.forall_mem_cons.mpr ⟨w_iast (by decide +kernel : decode (zb 4) 120 = .ok (.iastore, 1)), List.forall_mem_cons.mpr ⟨w_iinc (by decide +kernel : decode (zb 4) 121 = .ok (.iinc 6 1, 3)) rfl, List.forall_mem_cons.mpr ⟨w_goto (by decide +kernel : decode (zb 4) 124 = .ok (.goto (-91), 3)) rfl, List.forall_mem_cons.mpr ⟨w_vr (by decide +kernel : decode (zb 4) 127 = .ok (.return_, 1)) rfl, fun _ h => absurd h List.not_mem_nil⟩⟩⟩⟩⟩⟩⟩⟩⟩⟩⟩⟩⟩⟩⟩⟩⟩⟩⟩⟩⟩⟩⟩⟩⟩⟩⟩⟩⟩⟩⟩⟩
theorem zs4 : ∀ q ∈ zc4, zSn 4 q := List.forall_mem_append.mpr ⟨zs4_0, zs4_1⟩
-- HummingSet$Bench.comeIn(LHummingSet$Wireless;II)V
def zc5 : List (Nat × ZIns) := [(0, z_ic 0 1), (1, z_is 4 2), (3, z_il 4 2), (5, z_al 1 1), (6, z_gI 10 5), (9, z_ige 56), (12, z_ic 0 1), (13, z_is 5 2), (15, z_il 5 2), (17, z_ic 3 1), (18, z_ige 50), (21, z_al 0 1), (22, z_gR 1 0), (25, z_il 4 2), (27, z_aald 27), (28, z_il 5 2), (30, z_al 1 1), (31, z_gR 10 0), (34, z_il 4 2), (36, z_aald 24), (37, z_gR 7 0), (40, z_il 5 2), (42, z_iald 20), (43, z_iast), (44, z_inc 5 1), (47, z_goto 15), (50, z_inc 4 1), (53, z_goto 3), (56, z_ic 0 1), (57, z_is 4 2), (59, z_il 4 2), (61, z_al 1 1), (62, z_gI 10 6), (65, z_ige 152), (68, z_al 1 1), (69, z_gR 10 1), (72, z_il 4 2), (74, z_aald 25), (75, z_as 5 2), (77, z_il 2 1), (78, z_ic 1 1), (79, z_il 4 2), (81, z_ishl), (82, z_iand), (83, z_ifeq 146), (86, z_al 5 2), (88, z_gI 3 5), (91, z_il 3 1), (92, z_igt 146), (95, z_al 1 1), (96, z_al 5 2), (98, z_gI 3 1), (101, z_cV 10 46 2 1), (104, z_ifeq 146), (107, z_ic 0 1), (108, z_is 6 2), (110, z_il 6 2), (112, z_ic 3 1), (113, z_ige 146), (116, z_al 0 1), (117, z_gR 1 0), (120, z_al 5 2), (122, z_gI 3 1), (125, z_aald 27), (126, z_il 6 2), (128, z_dup2), (129, z_iald 20), (130, z_al 5 2), (132, z_gR 3 0), (135, z_il 6 2), (137, z_iald 20), (138, z_iadd), (139, z_iast), (140, z_inc 6 1), (143, z_goto 110), (146, z_inc 4 1), (149, z_goto 59), (152, z_vr)]
set_option maxRecDepth 100000 in
set_option maxHeartbeats 4000000 in
theorem zs5_0 : ∀ q ∈ ([(0, z_ic 0 1), (1, z_is 4 2), (3, z_il 4 2), (5, z_al 1 1), (6, z_gI 10 5), (9, z_ige 56), (12, z_ic 0 1), (13, z_is 5 2), (15, z_il 5 2), (17, z_ic 3 1), (18, z_ige 50), (21, z_al 0 1), (22, z_gR 1 0), (25, z_il 4 2), (27, z_aald 27), (28, z_il 5 2), (30, z_al 1 1), (31, z_gR 10 0), (34, z_il 4 2), (36, z_aald 24), (37, z_gR 7 0), (40, z_il 5 2), (42, z_iald 20), (43, z_iast), (44, z_inc 5 1), (47, z_goto 15), (50, z_inc 4 1), (53, z_goto 3), (56, z_ic 0 1), (57, z_is 4 2), (59, z_il 4 2), (61, z_al 1 1), (62, z_gI 10 6), (65, z_ige 152), (68, z_al 1 1), (69, z_gR 10 1), (72, z_il 4 2), (74, z_aald 25), (75, z_as 5 2), (77, z_il 2 1)] : List (Nat × ZIns)), zSn 5 q := List.forall_mem_cons.mpr ⟨w_iconst (by decide +kernel : decode (zb 5) 0 = .ok (.iconst 0, 1)) rfl, List.forall_mem_cons.mpr ⟨w_istore (by decide +kernel : decode (zb 5) 1 = .ok (.istore 4, 2)), List.forall_mem_cons.mpr ⟨w_iload (by decide +kernel : decode (zb 5) 3 = .ok (.iload 4, 2)), List.forall_mem_cons.mpr ⟨w_aload_n (by decide +kernel : decode (zb 5) 5 = .ok (.aload_n 1, 1)) rfl, List.forall_mem_cons.mpr ⟨w_gI zw5 (j := 5) zo10 (by decide +kernel) zfk_HummingSet_Bench_30 rfl (by decide +kernel : decode (zb 5) 6 = .ok (.getfield 30, 3)), List.forall_mem_cons.mpr ⟨w_ige (by decide +kernel : decode (zb 5) 9 = .ok (.if_icmp .ge 47, 3)) rfl, List.forall_mem_cons.mpr ⟨w_iconst (by decide +kernel : decode (zb 5) 12 = .ok (.iconst 0, 1)) rfl, List.forall_mem_cons.mpr ⟨w_istore (by decide +kernel : decode (zb 5) 13 = .ok (.istore 5, 2)), List.forall_mem_cons.mpr ⟨w_iload (by decide +kernel : decode (zb 5) 15 = .ok (.iload 5, 2)), List.forall_mem_cons.mpr ⟨w_iconst (by decide +kernel : decode (zb 5) 17 = .ok (.iconst 3, 1)) rfl, List.forall_mem_cons.mpr ⟨w_ige (by decide +kernel : decode (zb 5) 18 = .ok (.if_icmp .ge 32, 3)) rfl, List.forall_mem_cons.mpr ⟨w_aload_n (by decide +kernel : decode (zb 5) 21 = .ok (.aload_n 0, 1)) rfl, List.forall_mem_cons.mpr ⟨w_gR zw5 (j := 0) zo1 (by decide +kernel) zfk_HummingSet_Bench_11 rfl (by decide +kernel : decode (zb 5) 22 = .ok (.getfield 11, 3)), List.forall_mem_cons.mpr ⟨w_iload (by decide +kernel : decode (zb 5) 25 = .ok (.iload 4, 2)), List.forall_mem_cons.mpr ⟨w_aald27 (by decide +kernel : decode (zb 5) 27 = .ok (.aaload, 1)), List.forall_mem_cons.mpr ⟨w_iload (by decide +kernel : decode (zb 5) 28 = .ok (.iload 5, 2)), List.forall_mem_cons.mpr ⟨w_aload_n (by decide +kernel : decode (zb 5) 30 = .ok (.aload_n 1, 1)) rfl, List.forall_mem_cons.mpr ⟨w_gR zw5 (j := 0) zo10 (by decide +kernel) zfk_HummingSet_Bench_34 rfl (by decide +kernel : decode (zb 5) 31 = .ok (.getfield 34, 3)), List.forall_mem_cons.mpr ⟨w_iload (by decide +kernel : decode (zb 5) 34 = .ok (.iload 4, 2)), List.forall_mem_cons.mpr ⟨w_aald24 (by decide +kernel : decode (zb 5) 36 = .ok (.aaload, 1)), List.forall_mem_cons.mpr ⟨w_gR zw5 (j := 0) zo7 (by decide +kernel) zfk_HummingSet_Bench_43 rfl (by decide +kernel : decode (zb 5) 37 = .ok (.getfield 43, 3)), List.forall_mem_cons.mpr ⟨w_iload (by decide +kernel : decode (zb 5) 40 = .ok (.iload 5, 2)), List.forall_mem_cons.mpr ⟨w_iald (by decide +kernel : decode (zb 5) 42 = .ok (.iaload, 1)), List.forall_mem_cons.mpr ⟨w_iast (by decide +kernel : decode (zb 5) 43 = .ok (.iastore, 1)), List.forall_mem_cons.mpr ⟨w_iinc (by decide +kernel : decode (zb 5) 44 = .ok (.iinc 5 1, 3)) rfl, List.forall_mem_cons.mpr ⟨w_goto (by decide +kernel : decode (zb 5) 47 = .ok (.goto (-32), 3)) rfl, List.forall_mem_cons.mpr ⟨w_iinc (by decide +kernel : decode (zb 5) 50 = .ok (.iinc 4 1, 3)) rfl, List.forall_mem_cons.mpr ⟨w_goto (by decide +kernel : decode (zb 5) 53 = .ok (.goto (-50), 3)) rfl, List.forall_mem_cons.mpr ⟨w_iconst (by decide +kernel : decode (zb 5) 56 = .ok (.iconst 0, 1)) rfl, List.forall_mem_cons.mpr ⟨w_istore (by decide +kernel : decode (zb 5) 57 = .ok (.istore 4, 2)), List.forall_mem_cons.mpr ⟨w_iload (by decide +kernel : decode (zb 5) 59 = .ok (.iload 4, 2)), List.forall_mem_cons.mpr ⟨w_aload_n (by decide +kernel : decode (zb 5) 61 = .ok (.aload_n 1, 1)) rfl, List.forall_mem_cons.mpr ⟨w_gI zw5 (j := 6) zo10 (by decide +kernel) zfk_HummingSet_Bench_46 rfl (by decide +kernel : decode (zb 5) 62 = .ok (.getfield 46, 3)), List.forall_mem_cons.mpr ⟨w_ige (by decide +kernel : decode (zb 5) 65 = .ok (.if_icmp .ge 87, 3)) rfl, List.forall_mem_cons.mpr ⟨w_aload_n (by decide +kernel : decode (zb 5) 68 = .ok (.aload_n 1, 1)) rfl, List.forall_mem_cons.mpr ⟨w_gR zw5 (j := 1) zo10 (by decide +kernel) zfk_HummingSet_Bench_49 rfl (by decide +kernel : decode (zb 5) 69 = .ok (.getfield 49, 3)), List.forall_mem_cons.mpr ⟨w_iload (by decide +kernel : decode (zb 5) 72 = .ok (.iload 4, 2)), List.forall_mem_cons.mpr ⟨w_aald25 (by decide +kernel : decode (zb 5) 74 = .ok (.aaload, 1)), List.forall_mem_cons.mpr ⟨w_astore (by decide +kernel : decode (zb 5) 75 = .ok (.astore 5, 2)), List.forall_mem_cons.mpr ⟨w_iload_n (by decide +kernel : decode (zb 5) 77 = .ok (.iload_n 2, 1)) rfl, fun _ h => absurd h List.not_mem_nil⟩⟩⟩⟩⟩⟩⟩⟩⟩⟩⟩⟩⟩⟩⟩⟩⟩⟩⟩⟩⟩⟩⟩⟩⟩⟩⟩⟩⟩⟩⟩⟩⟩⟩⟩⟩⟩⟩⟩⟩
set_option maxRecDepth 100000 in
set_option maxHeartbeats 4000000 in
theorem zs5_1 : ∀ q ∈ ([(78, z_ic 1 1), (79, z_il 4 2), (81, z_ishl), (82, z_iand), (83, z_ifeq 146), (86, z_al 5 2), (88, z_gI 3 5), (91, z_il 3 1), (92, z_igt 146), (95, z_al 1 1), (96, z_al 5 2), (98, z_gI 3 1), (101, z_cV 10 46 2 1), (104, z_ifeq 146), (107, z_ic 0 1), (108, z_is 6 2), (110, z_il 6 2), (112, z_ic 3 1), (113, z_ige 146), (116, z_al 0 1), (117, z_gR 1 0), (120, z_al 5 2), (122, z_gI 3 1), (125, z_aald 27), (126, z_il 6 2), (128, z_dup2), (129, z_iald 20), (130, z_al 5 2), (132, z_gR 3 0), (135, z_il 6 2), (137, z_iald 20), (138, z_iadd), (139, z_iast), (140, z_inc 6 1), (143, z_goto 110), (146, z_inc 4 1), (149, z_goto 59), (152, z_vr)] : List (Nat × ZIns)), zSn 5 q := List.forall_mem_cons.mpr ⟨w_iconst (by decide +kernel : decode (zb 5) 78 = .ok (.iconst 1, 1)) rfl, List.forall_mem_cons.mpr ⟨w_iload (by decide +kernel : decode (zb 5) 79 = .ok (.iload 4, 2)), List.forall_mem_cons.mpr ⟨w_ishl (by decide +kernel : decode (zb 5) 81 = .ok (.ishl, 1)), List.forall_mem_cons.mpr ⟨w_iand (by decide +kernel : decode (zb 5) 82 = .ok (.iand, 1)), List.forall_mem_cons.mpr ⟨w_ifeq (by decide +kernel : decode (zb 5) 83 = .ok (.ifCond .eq 63, 3)) rfl, List.forall_mem_cons.mpr ⟨w_aload (by decide +kernel : decode (zb 5) 86 = .ok (.aload 5, 2)), List.forall_mem_cons.mpr ⟨w_gI zw5 (j := 5) zo3 (by decide +kernel) zfk_HummingSet_Bench_53 rfl (by decide +kernel : decode (zb 5) 88 = .ok (.getfield 53, 3)), List.forall_mem_cons.mpr ⟨w_iload_n (by decide +kernel : decode (zb 5) 91 = .ok (.iload_n 3, 1)) rfl, List.forall_mem_cons.mpr ⟨w_igt (by decide +kernel : decode (zb 5) 92 = .ok (.if_icmp .gt 54, 3)) rfl, List.forall_mem_cons.mpr ⟨w_aload_n (by decide +kernel : decode (zb 5) 95 = .ok (.aload_n 1, 1)) rfl, List.forall_mem_cons.mpr ⟨w_aload (by decide +kernel : decode (zb 5) 96 = .ok (.aload 5, 2)), List.forall_mem_cons.mpr ⟨w_gI zw5 (j := 1) zo3 (by decide +kernel) zfk_HummingSet_Bench_58 rfl (by decide +kernel : decode (zb 5) 98 = .ok (.getfield 58, 3)), List.forall_mem_cons.mpr ⟨w_cV zw5 zo10 rfl rfl zin46 zse46 zca46 (by decide +kernel) (by decide +kernel) zmk_HummingSet_Bench_24 (by decide +kernel : decode (zb 5) 101 = .ok (.invokevirtual 24, 3)), List.forall_mem_cons.mpr ⟨w_ifeq (by decide +kernel : decode (zb 5) 104 = .ok (.ifCond .eq 42, 3)) rfl, List.forall_mem_cons.mpr ⟨w_iconst (by decide +kernel : decode (zb 5) 107 = .ok (.iconst 0, 1)) rfl, List.forall_mem_cons.mpr ⟨w_istore (by decide +kernel : decode (zb 5) 108 = .ok (.istore 6, 2)), List.forall_mem_cons.mpr ⟨w_iload (by decide +kernel : decode (zb 5) 110 = .ok (.iload 6, 2)), List.forall_mem_cons.mpr ⟨w_iconst (by decide +kernel : decode (zb 5) 112 = .ok (.iconst 3, 1)) rfl, List.forall_mem_cons.mpr ⟨w_ige (by decide +kernel : decode (zb 5) 113 = .ok (.if_icmp .ge 33, 3)) rfl, List.forall_mem_cons.mpr ⟨w_aload_n (by decide +kernel : decode (zb 5) 116 = .ok (.aload_n 0, 1)) rfl, List.forall_mem_cons.mpr ⟨w_gR zw5 (j := 0) zo1 (by decide +kernel) zfk_HummingSet_Bench_11 rfl (by decide +kernel : decode (zb 5) 117 = .ok (.getfield 11, 3)), List.forall_mem_cons.mpr ⟨w_aload (by decide +kernel : decode (zb 5) 120 = .ok (.aload 5, 2)), List.forall_mem_cons.mpr ⟨w_gI zw5 (j := 1) zo3 (by decide +kernel) zfk_HummingSet_Bench_58 rfl (by decide +kernel : decode (zb 5) 122 = .ok (.getfield 58, 3)), List.forall_mem_cons.mpr ⟨w_aald27 (by decide +kernel : decode (zb 5) 125 = .ok (.aaload, 1)), List.forall_mem_cons.mpr ⟨w_iload (by decide +kernel : decode (zb 5) 126 = .ok (.iload 6, 2)), List.forall_mem_cons.mpr ⟨w_dup2 (by decide +kernel : decode (zb 5) 128 = .ok (.dup2, 1)), List.forall_mem_cons.mpr ⟨w_iald (by decide +kernel : decode (zb 5) 129 = .ok (.iaload, 1)), List.forall_mem_cons.mpr ⟨w_aload (by decide +kernel : decode (zb 5) 130 = .ok (.aload 5, 2)), List.forall_mem_cons.mpr ⟨w_gR zw5 (j := 0) zo3 (by decide +kernel) zfk_HummingSet_Bench_61 rfl (by decide +kernel : decode (zb 5) 132 = .ok (.getfield 61, 3)), List.forall_mem_cons.mpr ⟨w_iload (by decide +kernel : decode (zb 5) 135 = .ok (.iload 6, 2)), List.forall_mem_cons.mpr ⟨w_iald (by decide +kernel : decode (zb 5) 137 = .ok (.iaload, 1)), List.forall_mem_cons.mpr ⟨w_iadd (by decide +kernel : decode (zb 5) 138 = .ok (.iadd, 1)), List.forall_mem_cons.mpr ⟨w_iast (by decide +kernel : decode (zb 5) 139 = .ok (.iastore, 1)), List.forall_mem_cons.mpr ⟨w_iinc (by decide +kernel : decode (zb 5) 140 = .ok (.iinc 6 1, 3)) rfl, List.forall_mem_cons.mpr ⟨w_goto (by decide +kernel : decode (zb 5) 143 = .ok (.goto (-33), 3)) rfl, List.forall_mem_cons.mpr ⟨w_iinc (by decide +kernel : decode (zb 5) 146 = .ok (.iinc 4 1, 3)) rfl, List.forall_mem_cons.mpr ⟨w_goto (by decide +kernel : decode (zb 5) 149 = .ok (.goto (-90), 3)) rfl, List.forall_mem_cons.mpr ⟨w_vr (by decide +kernel : decode (zb 5) 152 = .ok (.return_, 1)) rfl, fun _ h => absurd h List.not_mem_nil⟩⟩⟩⟩⟩⟩⟩⟩⟩⟩⟩⟩⟩⟩⟩⟩⟩⟩⟩⟩⟩⟩⟩⟩⟩⟩⟩⟩⟩⟩⟩⟩⟩⟩⟩⟩⟩⟩
theorem zs5 : ∀ q ∈ zc5, zSn 5 q := List.forall_mem_append.mpr ⟨zs5_0, zs5_1⟩
-- HummingSet$Bench.tonesHeard(LHummingSet$Wireless;)I
def zc6 : List (Nat × ZIns) := [(0, z_ic 0 1), (1, z_is 2 1), (2, z_ic 0 1), (3, z_is 3 1), (4, z_il 3 1), (5, z_ic 3 1), (6, z_ige 39), (9, z_al 0 1), (10, z_gR 1 1), (13, z_il 3 1), (14, z_iald 20), (15, z_mabs), (18, z_al 1 1), (19, z_gR 10 3), (22, z_il 3 1), (23, z_iald 20), (24, z_ilt 33), (27, z_il 2 1), (28, z_ic 1 1), (29, z_il 3 1), (30, z_ishl), (31, z_ior), (32, z_is 2 1), (33, z_inc 3 1), (36, z_goto 4), (39, z_il 2 1), (40, z_ir)]
set_option maxRecDepth 100000 in
set_option maxHeartbeats 4000000 in
theorem zs6_0 : ∀ q ∈ ([(0, z_ic 0 1), (1, z_is 2 1), (2, z_ic 0 1), (3, z_is 3 1), (4, z_il 3 1), (5, z_ic 3 1), (6, z_ige 39), (9, z_al 0 1), (10, z_gR 1 1), (13, z_il 3 1), (14, z_iald 20), (15, z_mabs), (18, z_al 1 1), (19, z_gR 10 3), (22, z_il 3 1), (23, z_iald 20), (24, z_ilt 33), (27, z_il 2 1), (28, z_ic 1 1), (29, z_il 3 1), (30, z_ishl), (31, z_ior), (32, z_is 2 1), (33, z_inc 3 1), (36, z_goto 4), (39, z_il 2 1), (40, z_ir)] : List (Nat × ZIns)), zSn 6 q := List.forall_mem_cons.mpr ⟨w_iconst (by decide +kernel : decode (zb 6) 0 = .ok (.iconst 0, 1)) rfl, List.forall_mem_cons.mpr ⟨w_istore_n (by decide +kernel : decode (zb 6) 1 = .ok (.istore_n 2, 1)) rfl, List.forall_mem_cons.mpr ⟨w_iconst (by decide +kernel : decode (zb 6) 2 = .ok (.iconst 0, 1)) rfl, List.forall_mem_cons.mpr ⟨w_istore_n (by decide +kernel : decode (zb 6) 3 = .ok (.istore_n 3, 1)) rfl, List.forall_mem_cons.mpr ⟨w_iload_n (by decide +kernel : decode (zb 6) 4 = .ok (.iload_n 3, 1)) rfl, List.forall_mem_cons.mpr ⟨w_iconst (by decide +kernel : decode (zb 6) 5 = .ok (.iconst 3, 1)) rfl, List.forall_mem_cons.mpr ⟨w_ige (by decide +kernel : decode (zb 6) 6 = .ok (.if_icmp .ge 33, 3)) rfl, List.forall_mem_cons.mpr ⟨w_aload_n (by decide +kernel : decode (zb 6) 9 = .ok (.aload_n 0, 1)) rfl, List.forall_mem_cons.mpr ⟨w_gR zw6 (j := 1) zo1 (by decide +kernel) zfk_HummingSet_Bench_16 rfl (by decide +kernel : decode (zb 6) 10 = .ok (.getfield 16, 3)), List.forall_mem_cons.mpr ⟨w_iload_n (by decide +kernel : decode (zb 6) 13 = .ok (.iload_n 3, 1)) rfl, List.forall_mem_cons.mpr ⟨w_iald (by decide +kernel : decode (zb 6) 14 = .ok (.iaload, 1)), List.forall_mem_cons.mpr ⟨w_mabs zw6 zmaL_mabs_HummingSet_Bench_64 zmaS_mabs zmaI zmaC_mabs (by decide +kernel) (by decide +kernel : decode (zb 6) 15 = .ok (.invokestatic 64, 3)), List.forall_mem_cons.mpr ⟨w_aload_n (by decide +kernel : decode (zb 6) 18 = .ok (.aload_n 1, 1)) rfl, List.forall_mem_cons.mpr ⟨w_gR zw6 (j := 3) zo10 (by decide +kernel) zfk_HummingSet_Bench_70 rfl (by decide +kernel : decode (zb 6) 19 = .ok (.getfield 70, 3)), List.forall_mem_cons.mpr ⟨w_iload_n (by decide +kernel : decode (zb 6) 22 = .ok (.iload_n 3, 1)) rfl, List.forall_mem_cons.mpr ⟨w_iald (by decide +kernel : decode (zb 6) 23 = .ok (.iaload, 1)), List.forall_mem_cons.mpr ⟨w_ilt (by decide +kernel : decode (zb 6) 24 = .ok (.if_icmp .lt 9, 3)) rfl, List.forall_mem_cons.mpr ⟨w_iload_n (by decide +kernel : decode (zb 6) 27 = .ok (.iload_n 2, 1)) rfl, List.forall_mem_cons.mpr ⟨w_iconst (by decide +kernel : decode (zb 6) 28 = .ok (.iconst 1, 1)) rfl, List.forall_mem_cons.mpr ⟨w_iload_n (by decide +kernel : decode (zb 6) 29 = .ok (.iload_n 3, 1)) rfl, List.forall_mem_cons.mpr ⟨w_ishl (by decide +kernel : decode (zb 6) 30 = .ok (.ishl, 1)), List.forall_mem_cons.mpr ⟨w_ior (by decide +kernel : decode (zb 6) 31 = .ok (.ior, 1)), List.forall_mem_cons.mpr ⟨w_istore_n (by decide +kernel : decode (zb 6) 32 = .ok (.istore_n 2, 1)) rfl, List.forall_mem_cons.mpr ⟨w_iinc (by decide +kernel : decode (zb 6) 33 = .ok (.iinc 3 1, 3)) rfl, List.forall_mem_cons.mpr ⟨w_goto (by decide +kernel : decode (zb 6) 36 = .ok (.goto (-32), 3)) rfl, List.forall_mem_cons.mpr ⟨w_iload_n (by decide +kernel : decode (zb 6) 39 = .ok (.iload_n 2, 1)) rfl, List.forall_mem_cons.mpr ⟨w_ir (by decide +kernel : decode (zb 6) 40 = .ok (.ireturn, 1)) rfl, fun _ h => absurd h List.not_mem_nil⟩⟩⟩⟩⟩⟩⟩⟩⟩⟩⟩⟩⟩⟩⟩⟩⟩⟩⟩⟩⟩⟩⟩⟩⟩⟩⟩
theorem zs6 : ∀ q ∈ zc6, zSn 6 q := zs6_0
-- HummingSet$Bench.loudness()I
def zc7 : List (Nat × ZIns) := [(0, z_al 0 1), (1, z_gR 1 1), (4, z_cS 8 3 1), (7, z_ir)]
set_option maxRecDepth 100000 in
set_option maxHeartbeats 4000000 in
theorem zs7_0 : ∀ q ∈ ([(0, z_al 0 1), (1, z_gR 1 1), (4, z_cS 8 3 1), (7, z_ir)] : List (Nat × ZIns)), zSn 7 q := List.forall_mem_cons.mpr ⟨w_aload_n (by decide +kernel : decode (zb 7) 0 = .ok (.aload_n 0, 1)) rfl, List.forall_mem_cons.mpr ⟨w_gR zw7 (j := 1) zo1 (by decide +kernel) zfk_HummingSet_Bench_16 rfl (by decide +kernel : decode (zb 7) 1 = .ok (.getfield 16, 3)), List.forall_mem_cons.mpr ⟨w_cS zw7 rfl zst8 zca8 (by decide +kernel) (by decide +kernel) zmk_HummingSet_Bench_73 (by decide +kernel : decode (zb 7) 4 = .ok (.invokestatic 73, 3)), List.forall_mem_cons.mpr ⟨w_ir (by decide +kernel : decode (zb 7) 7 = .ok (.ireturn, 1)) rfl, fun _ h => absurd h List.not_mem_nil⟩⟩⟩⟩
theorem zs7 : ∀ q ∈ zc7, zSn 7 q := zs7_0
-- HummingSet$Bench.magnitude([I)I
def zc8 : List (Nat × ZIns) := [(0, z_ic 0 1), (1, z_is 1 1), (2, z_ic 0 1), (3, z_is 2 1), (4, z_il 2 1), (5, z_al 0 1), (6, z_alen 20), (7, z_ige 25), (10, z_il 1 1), (11, z_al 0 1), (12, z_il 2 1), (13, z_iald 20), (14, z_mabs), (17, z_iadd), (18, z_is 1 1), (19, z_inc 2 1), (22, z_goto 4), (25, z_il 1 1), (26, z_ir)]
set_option maxRecDepth 100000 in
set_option maxHeartbeats 4000000 in
theorem zs8_0 : ∀ q ∈ ([(0, z_ic 0 1), (1, z_is 1 1), (2, z_ic 0 1), (3, z_is 2 1), (4, z_il 2 1), (5, z_al 0 1), (6, z_alen 20), (7, z_ige 25), (10, z_il 1 1), (11, z_al 0 1), (12, z_il 2 1), (13, z_iald 20), (14, z_mabs), (17, z_iadd), (18, z_is 1 1), (19, z_inc 2 1), (22, z_goto 4), (25, z_il 1 1), (26, z_ir)] : List (Nat × ZIns)), zSn 8 q := List.forall_mem_cons.mpr ⟨w_iconst (by decide +kernel : decode (zb 8) 0 = .ok (.iconst 0, 1)) rfl, List.forall_mem_cons.mpr ⟨w_istore_n (by decide +kernel : decode (zb 8) 1 = .ok (.istore_n 1, 1)) rfl, List.forall_mem_cons.mpr ⟨w_iconst (by decide +kernel : decode (zb 8) 2 = .ok (.iconst 0, 1)) rfl, List.forall_mem_cons.mpr ⟨w_istore_n (by decide +kernel : decode (zb 8) 3 = .ok (.istore_n 2, 1)) rfl, List.forall_mem_cons.mpr ⟨w_iload_n (by decide +kernel : decode (zb 8) 4 = .ok (.iload_n 2, 1)) rfl, List.forall_mem_cons.mpr ⟨w_aload_n (by decide +kernel : decode (zb 8) 5 = .ok (.aload_n 0, 1)) rfl, List.forall_mem_cons.mpr ⟨w_alen (by decide +kernel : decode (zb 8) 6 = .ok (.arraylength, 1)), List.forall_mem_cons.mpr ⟨w_ige (by decide +kernel : decode (zb 8) 7 = .ok (.if_icmp .ge 18, 3)) rfl, List.forall_mem_cons.mpr ⟨w_iload_n (by decide +kernel : decode (zb 8) 10 = .ok (.iload_n 1, 1)) rfl, List.forall_mem_cons.mpr ⟨w_aload_n (by decide +kernel : decode (zb 8) 11 = .ok (.aload_n 0, 1)) rfl, List.forall_mem_cons.mpr ⟨w_iload_n (by decide +kernel : decode (zb 8) 12 = .ok (.iload_n 2, 1)) rfl, List.forall_mem_cons.mpr ⟨w_iald (by decide +kernel : decode (zb 8) 13 = .ok (.iaload, 1)), List.forall_mem_cons.mpr ⟨w_mabs zw8 zmaL_mabs_HummingSet_Bench_64 zmaS_mabs zmaI zmaC_mabs (by decide +kernel) (by decide +kernel : decode (zb 8) 14 = .ok (.invokestatic 64, 3)), List.forall_mem_cons.mpr ⟨w_iadd (by decide +kernel : decode (zb 8) 17 = .ok (.iadd, 1)), List.forall_mem_cons.mpr ⟨w_istore_n (by decide +kernel : decode (zb 8) 18 = .ok (.istore_n 1, 1)) rfl, List.forall_mem_cons.mpr ⟨w_iinc (by decide +kernel : decode (zb 8) 19 = .ok (.iinc 2 1, 3)) rfl, List.forall_mem_cons.mpr ⟨w_goto (by decide +kernel : decode (zb 8) 22 = .ok (.goto (-18), 3)) rfl, List.forall_mem_cons.mpr ⟨w_iload_n (by decide +kernel : decode (zb 8) 25 = .ok (.iload_n 1, 1)) rfl, List.forall_mem_cons.mpr ⟨w_ir (by decide +kernel : decode (zb 8) 26 = .ok (.ireturn, 1)) rfl, fun _ h => absurd h List.not_mem_nil⟩⟩⟩⟩⟩⟩⟩⟩⟩⟩⟩⟩⟩⟩⟩⟩⟩⟩⟩
theorem zs8 : ∀ q ∈ zc8, zSn 8 q := zs8_0
-- HummingSet$Bench.reply(LHummingSet$Wireless;IIII)I
def zc9 : List (Nat × ZIns) := [(0, z_il 3 1), (1, z_ic 3 1), (2, z_ine 15), (5, z_al 1 1), (6, z_il 2 1), (7, z_il 4 2), (9, z_cS 10 3 3), (12, z_goto 16), (15, z_il 2 1), (16, z_is 6 2), (18, z_al 0 1), (19, z_al 1 1), (20, z_il 6 2), (22, z_il 5 2), (24, z_il 3 1), (25, z_ic 1 1), (26, z_ine 34), (29, z_il 4 2), (31, z_goto 35), (34, z_ic (-1) 1), (35, z_il 3 1), (36, z_ic 2 1), (37, z_ine 45), (40, z_il 4 2), (42, z_goto 46), (45, z_ic (-1) 1), (46, z_cV 1 4 9 5), (49, z_il 3 1), (50, z_ic 4 1), (51, z_ine 82), (54, z_al 1 1), (55, z_il 4 2), (57, z_cV 10 46 2 1), (60, z_ifeq 82), (63, z_ic 9 2), (65, z_al 0 1), (66, z_gR 1 0), (69, z_il 4 2), (71, z_aald 27), (72, z_cS 8 3 1), (75, z_ic 20 2), (77, z_idiv), (78, z_mmin), (81, z_ir), (82, z_al 0 1), (83, z_al 1 1), (84, z_cV 1 6 4 1), (87, z_ir)]
set_option maxRecDepth 100000 in
set_option maxHeartbeats 4000000 in
theorem zs9_0 : ∀ q ∈ ([(0, z_il 3 1), (1, z_ic 3 1), (2, z_ine 15), (5, z_al 1 1), (6, z_il 2 1), (7, z_il 4 2), (9, z_cS 10 3 3), (12, z_goto 16), (15, z_il 2 1), (16, z_is 6 2), (18, z_al 0 1), (19, z_al 1 1), (20, z_il 6 2), (22, z_il 5 2), (24, z_il 3 1), (25, z_ic 1 1), (26, z_ine 34), (29, z_il 4 2), (31, z_goto 35), (34, z_ic (-1) 1), (35, z_il 3 1), (36, z_ic 2 1), (37, z_ine 45), (40, z_il 4 2), (42, z_goto 46), (45, z_ic (-1) 1), (46, z_cV 1 4 9 5), (49, z_il 3 1), (50, z_ic 4 1), (51, z_ine 82), (54, z_al 1 1), (55, z_il 4 2), (57, z_cV 10 46 2 1), (60, z_ifeq 82), (63, z_ic 9 2), (65, z_al 0 1), (66, z_gR 1 0), (69, z_il 4 2), (71, z_aald 27), (72, z_cS 8 3 1)] : List (Nat × ZIns)), zSn 9 q := List.forall_mem_cons.mpr ⟨w_iload_n (by decide +kernel : decode (zb 9) 0 = .ok (.iload_n 3, 1)) rfl, List.forall_mem_cons.mpr ⟨w_iconst (by decide +kernel : decode (zb 9) 1 = .ok (.iconst 3, 1)) rfl, List.forall_mem_cons.mpr ⟨w_ine (by decide +kernel : decode (zb 9) 2 = .ok (.if_icmp .ne 13, 3)) rfl, List.forall_mem_cons.mpr ⟨w_aload_n (by decide +kernel : decode (zb 9) 5 = .ok (.aload_n 1, 1)) rfl, List.forall_mem_cons.mpr ⟨w_iload_n (by decide +kernel : decode (zb 9) 6 = .ok (.iload_n 2, 1)) rfl, List.forall_mem_cons.mpr ⟨w_iload (by decide +kernel : decode (zb 9) 7 = .ok (.iload 4, 2)), List.forall_mem_cons.mpr ⟨w_cS zw9 rfl zst10 zca10 (by decide +kernel) (by decide +kernel) zmk_HummingSet_Bench_77 (by decide +kernel : decode (zb 9) 9 = .ok (.invokestatic 77, 3)), List.forall_mem_cons.mpr ⟨w_goto (by decide +kernel : decode (zb 9) 12 = .ok (.goto 4, 3)) rfl, List.forall_mem_cons.mpr ⟨w_iload_n (by decide +kernel : decode (zb 9) 15 = .ok (.iload_n 2, 1)) rfl, List.forall_mem_cons.mpr ⟨w_istore (by decide +kernel : decode (zb 9) 16 = .ok (.istore 6, 2)), List.forall_mem_cons.mpr ⟨w_aload_n (by decide +kernel : decode (zb 9) 18 = .ok (.aload_n 0, 1)) rfl, List.forall_mem_cons.mpr ⟨w_aload_n (by decide +kernel : decode (zb 9) 19 = .ok (.aload_n 1, 1)) rfl, List.forall_mem_cons.mpr ⟨w_iload (by decide +kernel : decode (zb 9) 20 = .ok (.iload 6, 2)), List.forall_mem_cons.mpr ⟨w_iload (by decide +kernel : decode (zb 9) 22 = .ok (.iload 5, 2)), List.forall_mem_cons.mpr ⟨w_iload_n (by decide +kernel : decode (zb 9) 24 = .ok (.iload_n 3, 1)) rfl, List.forall_mem_cons.mpr ⟨w_iconst (by decide +kernel : decode (zb 9) 25 = .ok (.iconst 1, 1)) rfl, List.forall_mem_cons.mpr ⟨w_ine (by decide +kernel : decode (zb 9) 26 = .ok (.if_icmp .ne 8, 3)) rfl, List.forall_mem_cons.mpr ⟨w_iload (by decide +kernel : decode (zb 9) 29 = .ok (.iload 4, 2)), List.forall_mem_cons.mpr ⟨w_goto (by decide +kernel : decode (zb 9) 31 = .ok (.goto 4, 3)) rfl, List.forall_mem_cons.mpr ⟨w_iconst (by decide +kernel : decode (zb 9) 34 = .ok (.iconst (-1), 1)) rfl, List.forall_mem_cons.mpr ⟨w_iload_n (by decide +kernel : decode (zb 9) 35 = .ok (.iload_n 3, 1)) rfl, List.forall_mem_cons.mpr ⟨w_iconst (by decide +kernel : decode (zb 9) 36 = .ok (.iconst 2, 1)) rfl, List.forall_mem_cons.mpr ⟨w_ine (by decide +kernel : decode (zb 9) 37 = .ok (.if_icmp .ne 8, 3)) rfl, List.forall_mem_cons.mpr ⟨w_iload (by decide +kernel : decode (zb 9) 40 = .ok (.iload 4, 2)), List.forall_mem_cons.mpr ⟨w_goto (by decide +kernel : decode (zb 9) 42 = .ok (.goto 4, 3)) rfl, List.forall_mem_cons.mpr ⟨w_iconst (by decide +kernel : decode (zb 9) 45 = .ok (.iconst (-1), 1)) rfl, List.forall_mem_cons.mpr ⟨w_cV zw9 zo1 rfl rfl zin4 zse4 zca4 (by decide +kernel) (by decide +kernel) zmk_HummingSet_Bench_81 (by decide +kernel : decode (zb 9) 46 = .ok (.invokevirtual 81, 3)), List.forall_mem_cons.mpr ⟨w_iload_n (by decide +kernel : decode (zb 9) 49 = .ok (.iload_n 3, 1)) rfl, List.forall_mem_cons.mpr ⟨w_iconst (by decide +kernel : decode (zb 9) 50 = .ok (.iconst 4, 1)) rfl, List.forall_mem_cons.mpr ⟨w_ine (by decide +kernel : decode (zb 9) 51 = .ok (.if_icmp .ne 31, 3)) rfl, List.forall_mem_cons.mpr ⟨w_aload_n (by decide +kernel : decode (zb 9) 54 = .ok (.aload_n 1, 1)) rfl, List.forall_mem_cons.mpr ⟨w_iload (by decide +kernel : decode (zb 9) 55 = .ok (.iload 4, 2)), List.forall_mem_cons.mpr ⟨w_cV zw9 zo10 rfl rfl zin46 zse46 zca46 (by decide +kernel) (by decide +kernel) zmk_HummingSet_Bench_24 (by decide +kernel : decode (zb 9) 57 = .ok (.invokevirtual 24, 3)), List.forall_mem_cons.mpr ⟨w_ifeq (by decide +kernel : decode (zb 9) 60 = .ok (.ifCond .eq 22, 3)) rfl, List.forall_mem_cons.mpr ⟨w_bipush (by decide +kernel : decode (zb 9) 63 = .ok (.bipush 9, 2)) rfl, List.forall_mem_cons.mpr ⟨w_aload_n (by decide +kernel : decode (zb 9) 65 = .ok (.aload_n 0, 1)) rfl, List.forall_mem_cons.mpr ⟨w_gR zw9 (j := 0) zo1 (by decide +kernel) zfk_HummingSet_Bench_11 rfl (by decide +kernel : decode (zb 9) 66 = .ok (.getfield 11, 3)), List.forall_mem_cons.mpr ⟨w_iload (by decide +kernel : decode (zb 9) 69 = .ok (.iload 4, 2)), List.forall_mem_cons.mpr ⟨w_aald27 (by decide +kernel : decode (zb 9) 71 = .ok (.aaload, 1)), List.forall_mem_cons.mpr ⟨w_cS zw9 rfl zst8 zca8 (by decide +kernel) (by decide +kernel) zmk_HummingSet_Bench_73 (by decide +kernel : decode (zb 9) 72 = .ok (.invokestatic 73, 3)), fun _ h => absurd h List.not_mem_nil⟩⟩⟩⟩⟩⟩⟩⟩⟩⟩⟩⟩⟩⟩⟩⟩⟩⟩⟩⟩⟩⟩⟩⟩⟩⟩⟩⟩⟩⟩⟩⟩⟩⟩⟩⟩⟩⟩⟩⟩
set_option maxRecDepth 100000 in
set_option maxHeartbeats 4000000 in
theorem zs9_1 : ∀ q ∈ ([(75, z_ic 20 2), (77, z_idiv), (78, z_mmin), (81, z_ir), (82, z_al 0 1), (83, z_al 1 1), (84, z_cV 1 6 4 1), (87, z_ir)] : List (Nat × ZIns)), zSn 9 q := List.forall_mem_cons.mpr ⟨w_bipush (by decide +kernel : decode (zb 9) 75 = .ok (.bipush 20, 2)) rfl, List.forall_mem_cons.mpr ⟨w_idiv (by decide +kernel : decode (zb 9) 77 = .ok (.idiv, 1)), List.forall_mem_cons.mpr ⟨w_mmin zw9 zmaL_mmin_HummingSet_Bench_85 zmaS_mmin zmaI zmaC_mmin (by decide +kernel) (by decide +kernel : decode (zb 9) 78 = .ok (.invokestatic 85, 3)), List.forall_mem_cons.mpr ⟨w_ir (by decide +kernel : decode (zb 9) 81 = .ok (.ireturn, 1)) rfl, List.forall_mem_cons.mpr ⟨w_aload_n (by decide +kernel : decode (zb 9) 82 = .ok (.aload_n 0, 1)) rfl, List.forall_mem_cons.mpr ⟨w_aload_n (by decide +kernel : decode (zb 9) 83 = .ok (.aload_n 1, 1)) rfl, List.forall_mem_cons.mpr ⟨w_cV zw9 zo1 rfl rfl zin6 zse6 zca6 (by decide +kernel) (by decide +kernel) zmk_HummingSet_Bench_89 (by decide +kernel : decode (zb 9) 84 = .ok (.invokevirtual 89, 3)), List.forall_mem_cons.mpr ⟨w_ir (by decide +kernel : decode (zb 9) 87 = .ok (.ireturn, 1)) rfl, fun _ h => absurd h List.not_mem_nil⟩⟩⟩⟩⟩⟩⟩⟩
theorem zs9 : ∀ q ∈ zc9, zSn 9 q := List.forall_mem_append.mpr ⟨zs9_0, zs9_1⟩
-- HummingSet$Bench.acrossState(LHummingSet$Wireless;II)I
def zc10 : List (Nat × ZIns) := [(0, z_al 0 1), (1, z_il 2 1), (2, z_cV 10 47 2 1), (5, z_ifeq 30), (8, z_al 0 1), (9, z_gR 10 1), (12, z_il 2 1), (13, z_aald 25), (14, z_gI 3 2), (17, z_ifne 30), (20, z_il 1 1), (21, z_ic 1 1), (22, z_il 2 1), (23, z_ishl), (24, z_ic (-1) 1), (25, z_ixor), (26, z_iand), (27, z_goto 31), (30, z_il 1 1), (31, z_ir)]
set_option maxRecDepth 100000 in
set_option maxHeartbeats 4000000 in
theorem zs10_0 : ∀ q ∈ ([(0, z_al 0 1), (1, z_il 2 1), (2, z_cV 10 47 2 1), (5, z_ifeq 30), (8, z_al 0 1), (9, z_gR 10 1), (12, z_il 2 1), (13, z_aald 25), (14, z_gI 3 2), (17, z_ifne 30), (20, z_il 1 1), (21, z_ic 1 1), (22, z_il 2 1), (23, z_ishl), (24, z_ic (-1) 1), (25, z_ixor), (26, z_iand), (27, z_goto 31), (30, z_il 1 1), (31, z_ir)] : List (Nat × ZIns)), zSn 10 q := List.forall_mem_cons.mpr ⟨w_aload_n (by decide +kernel : decode (zb 10) 0 = .ok (.aload_n 0, 1)) rfl, List.forall_mem_cons.mpr ⟨w_iload_n (by decide +kernel : decode (zb 10) 1 = .ok (.iload_n 2, 1)) rfl, List.forall_mem_cons.mpr ⟨w_cV zw10 zo10 rfl rfl zin47 zse47 zca47 (by decide +kernel) (by decide +kernel) zmk_HummingSet_Bench_93 (by decide +kernel : decode (zb 10) 2 = .ok (.invokevirtual 93, 3)), List.forall_mem_cons.mpr ⟨w_ifeq (by decide +kernel : decode (zb 10) 5 = .ok (.ifCond .eq 25, 3)) rfl, List.forall_mem_cons.mpr ⟨w_aload_n (by decide +kernel : decode (zb 10) 8 = .ok (.aload_n 0, 1)) rfl, List.forall_mem_cons.mpr ⟨w_gR zw10 (j := 1) zo10 (by decide +kernel) zfk_HummingSet_Bench_49 rfl (by decide +kernel : decode (zb 10) 9 = .ok (.getfield 49, 3)), List.forall_mem_cons.mpr ⟨w_iload_n (by decide +kernel : decode (zb 10) 12 = .ok (.iload_n 2, 1)) rfl, List.forall_mem_cons.mpr ⟨w_aald25 (by decide +kernel : decode (zb 10) 13 = .ok (.aaload, 1)), List.forall_mem_cons.mpr ⟨w_gI zw10 (j := 2) zo3 (by decide +kernel) zfk_HummingSet_Bench_96 rfl (by decide +kernel : decode (zb 10) 14 = .ok (.getfield 96, 3)), List.forall_mem_cons.mpr ⟨w_ifne (by decide +kernel : decode (zb 10) 17 = .ok (.ifCond .ne 13, 3)) rfl, List.forall_mem_cons.mpr ⟨w_iload_n (by decide +kernel : decode (zb 10) 20 = .ok (.iload_n 1, 1)) rfl, List.forall_mem_cons.mpr ⟨w_iconst (by decide +kernel : decode (zb 10) 21 = .ok (.iconst 1, 1)) rfl, List.forall_mem_cons.mpr ⟨w_iload_n (by decide +kernel : decode (zb 10) 22 = .ok (.iload_n 2, 1)) rfl, List.forall_mem_cons.mpr ⟨w_ishl (by decide +kernel : decode (zb 10) 23 = .ok (.ishl, 1)), List.forall_mem_cons.mpr ⟨w_iconst (by decide +kernel : decode (zb 10) 24 = .ok (.iconst (-1), 1)) rfl, List.forall_mem_cons.mpr ⟨w_ixor (by decide +kernel : decode (zb 10) 25 = .ok (.ixor, 1)), List.forall_mem_cons.mpr ⟨w_iand (by decide +kernel : decode (zb 10) 26 = .ok (.iand, 1)), List.forall_mem_cons.mpr ⟨w_goto (by decide +kernel : decode (zb 10) 27 = .ok (.goto 4, 3)) rfl, List.forall_mem_cons.mpr ⟨w_iload_n (by decide +kernel : decode (zb 10) 30 = .ok (.iload_n 1, 1)) rfl, List.forall_mem_cons.mpr ⟨w_ir (by decide +kernel : decode (zb 10) 31 = .ok (.ireturn, 1)) rfl, fun _ h => absurd h List.not_mem_nil⟩⟩⟩⟩⟩⟩⟩⟩⟩⟩⟩⟩⟩⟩⟩⟩⟩⟩⟩⟩
theorem zs10 : ∀ q ∈ zc10, zSn 10 q := zs10_0
-- HummingSet$Cases.<init>()V
def zc11 : List (Nat × ZIns) := []
theorem zs11 : ∀ q ∈ zc11, zSn 11 q := fun _ h => absurd h List.not_mem_nil
-- HummingSet$Cases.fill(LHummingSet$Wireless;)V
def zc12 : List (Nat × ZIns) := [(0, z_al 0 1), (1, z_ic 0 1), (2, z_pI 2 2), (5, z_al 0 1), (6, z_lc 0 1), (7, z_pL 2 3), (10, z_ic 0 1), (11, z_is 2 1), (12, z_il 2 1), (13, z_ic 256 3), (16, z_ige 51), (19, z_al 1 1), (20, z_il 2 1), (21, z_cV 10 48 2 1), (24, z_ifeq 51), (27, z_il 2 1), (28, z_cS 175 1 1), (31, z_ic 2 1), (32, z_igt 45), (35, z_al 0 1), (36, z_il 2 1), (37, z_al 1 1), (38, z_il 2 1), (39, z_cV 10 64 6 1), (42, z_cV 2 13 4 2), (45, z_inc 2 1), (48, z_goto 12), (51, z_vr)]
set_option maxRecDepth 100000 in
set_option maxHeartbeats 4000000 in
theorem zs12_0 : ∀ q ∈ ([(0, z_al 0 1), (1, z_ic 0 1), (2, z_pI 2 2), (5, z_al 0 1), (6, z_lc 0 1), (7, z_pL 2 3), (10, z_ic 0 1), (11, z_is 2 1), (12, z_il 2 1), (13, z_ic 256 3), (16, z_ige 51), (19, z_al 1 1), (20, z_il 2 1), (21, z_cV 10 48 2 1), (24, z_ifeq 51), (27, z_il 2 1), (28, z_cS 175 1 1), (31, z_ic 2 1), (32, z_igt 45), (35, z_al 0 1), (36, z_il 2 1), (37, z_al 1 1), (38, z_il 2 1), (39, z_cV 10 64 6 1), (42, z_cV 2 13 4 2), (45, z_inc 2 1), (48, z_goto 12), (51, z_vr)] : List (Nat × ZIns)), zSn 12 q := List.forall_mem_cons.mpr ⟨w_aload_n (by decide +kernel : decode (zb 12) 0 = .ok (.aload_n 0, 1)) rfl, List.forall_mem_cons.mpr ⟨w_iconst (by decide +kernel : decode (zb 12) 1 = .ok (.iconst 0, 1)) rfl, List.forall_mem_cons.mpr ⟨w_pI zw12 (j := 2) zo2 (by decide +kernel) zfk_HummingSet_Cases_19 rfl rfl rfl (by decide +kernel : decode (zb 12) 2 = .ok (.putfield 19, 3)), List.forall_mem_cons.mpr ⟨w_aload_n (by decide +kernel : decode (zb 12) 5 = .ok (.aload_n 0, 1)) rfl, List.forall_mem_cons.mpr ⟨w_lconst (by decide +kernel : decode (zb 12) 6 = .ok (.lconst 0, 1)) rfl, List.forall_mem_cons.mpr ⟨w_pL zw12 (j := 3) zo2 (by decide +kernel) zfk_HummingSet_Cases_23 rfl rfl rfl (by decide +kernel : decode (zb 12) 7 = .ok (.putfield 23, 3)), List.forall_mem_cons.mpr ⟨w_iconst (by decide +kernel : decode (zb 12) 10 = .ok (.iconst 0, 1)) rfl, List.forall_mem_cons.mpr ⟨w_istore_n (by decide +kernel : decode (zb 12) 11 = .ok (.istore_n 2, 1)) rfl, List.forall_mem_cons.mpr ⟨w_iload_n (by decide +kernel : decode (zb 12) 12 = .ok (.iload_n 2, 1)) rfl, List.forall_mem_cons.mpr ⟨w_sipush (by decide +kernel : decode (zb 12) 13 = .ok (.sipush 256, 3)) rfl, List.forall_mem_cons.mpr ⟨w_ige (by decide +kernel : decode (zb 12) 16 = .ok (.if_icmp .ge 35, 3)) rfl, List.forall_mem_cons.mpr ⟨w_aload_n (by decide +kernel : decode (zb 12) 19 = .ok (.aload_n 1, 1)) rfl, List.forall_mem_cons.mpr ⟨w_iload_n (by decide +kernel : decode (zb 12) 20 = .ok (.iload_n 2, 1)) rfl, List.forall_mem_cons.mpr ⟨w_cV zw12 zo10 rfl rfl zin48 zse48 zca48 (by decide +kernel) (by decide +kernel) zmk_HummingSet_Cases_27 (by decide +kernel : decode (zb 12) 21 = .ok (.invokevirtual 27, 3)), List.forall_mem_cons.mpr ⟨w_ifeq (by decide +kernel : decode (zb 12) 24 = .ok (.ifCond .eq 27, 3)) rfl, List.forall_mem_cons.mpr ⟨w_iload_n (by decide +kernel : decode (zb 12) 27 = .ok (.iload_n 2, 1)) rfl, List.forall_mem_cons.mpr ⟨w_cS zw12 rfl zst175 zca175 (by decide +kernel) (by decide +kernel) zmk_HummingSet_Cases_33 (by decide +kernel : decode (zb 12) 28 = .ok (.invokestatic 33, 3)), List.forall_mem_cons.mpr ⟨w_iconst (by decide +kernel : decode (zb 12) 31 = .ok (.iconst 2, 1)) rfl, List.forall_mem_cons.mpr ⟨w_igt (by decide +kernel : decode (zb 12) 32 = .ok (.if_icmp .gt 13, 3)) rfl, List.forall_mem_cons.mpr ⟨w_aload_n (by decide +kernel : decode (zb 12) 35 = .ok (.aload_n 0, 1)) rfl, List.forall_mem_cons.mpr ⟨w_iload_n (by decide +kernel : decode (zb 12) 36 = .ok (.iload_n 2, 1)) rfl, List.forall_mem_cons.mpr ⟨w_aload_n (by decide +kernel : decode (zb 12) 37 = .ok (.aload_n 1, 1)) rfl, List.forall_mem_cons.mpr ⟨w_iload_n (by decide +kernel : decode (zb 12) 38 = .ok (.iload_n 2, 1)) rfl, List.forall_mem_cons.mpr ⟨w_cV zw12 zo10 rfl rfl zin64 zse64 zca64 (by decide +kernel) (by decide +kernel) zmk_HummingSet_Cases_39 (by decide +kernel : decode (zb 12) 39 = .ok (.invokevirtual 39, 3)), List.forall_mem_cons.mpr ⟨w_cV zw12 zo2 rfl rfl zin13 zse13 zca13 (by decide +kernel) (by decide +kernel) zmk_HummingSet_Cases_43 (by decide +kernel : decode (zb 12) 42 = .ok (.invokevirtual 43, 3)), List.forall_mem_cons.mpr ⟨w_iinc (by decide +kernel : decode (zb 12) 45 = .ok (.iinc 2 1, 3)) rfl, List.forall_mem_cons.mpr ⟨w_goto (by decide +kernel : decode (zb 12) 48 = .ok (.goto (-36), 3)) rfl, List.forall_mem_cons.mpr ⟨w_vr (by decide +kernel : decode (zb 12) 51 = .ok (.return_, 1)) rfl, fun _ h => absurd h List.not_mem_nil⟩⟩⟩⟩⟩⟩⟩⟩⟩⟩⟩⟩⟩⟩⟩⟩⟩⟩⟩⟩⟩⟩⟩⟩⟩⟩⟩⟩
theorem zs12 : ∀ q ∈ zc12, zSn 12 q := zs12_0
-- HummingSet$Cases.add(IJ)V
def zc13 : List (Nat × ZIns) := [(0, z_ll 2 1), (1, z_lc 0 1), (2, z_lcmp), (3, z_ifle 55), (6, z_al 0 1), (7, z_gI 2 2), (10, z_ic 37 2), (12, z_ige 55), (15, z_al 0 1), (16, z_gR 2 0), (19, z_al 0 1), (20, z_gI 2 2), (23, z_il 1 1), (24, z_iast), (25, z_al 0 1), (26, z_gR 2 1), (29, z_al 0 1), (30, z_gI 2 2), (33, z_ll 2 1), (34, z_last), (35, z_al 0 1), (36, z_dup), (37, z_gI 2 2), (40, z_ic 1 1), (41, z_iadd), (42, z_pI 2 2), (45, z_al 0 1), (46, z_dup), (47, z_gL 2 3), (50, z_ll 2 1), (51, z_ladd), (52, z_pL 2 3), (55, z_vr)]
set_option maxRecDepth 100000 in
set_option maxHeartbeats 4000000 in
theorem zs13_0 : ∀ q ∈ ([(0, z_ll 2 1), (1, z_lc 0 1), (2, z_lcmp), (3, z_ifle 55), (6, z_al 0 1), (7, z_gI 2 2), (10, z_ic 37 2), (12, z_ige 55), (15, z_al 0 1), (16, z_gR 2 0), (19, z_al 0 1), (20, z_gI 2 2), (23, z_il 1 1), (24, z_iast), (25, z_al 0 1), (26, z_gR 2 1), (29, z_al 0 1), (30, z_gI 2 2), (33, z_ll 2 1), (34, z_last), (35, z_al 0 1), (36, z_dup), (37, z_gI 2 2), (40, z_ic 1 1), (41, z_iadd), (42, z_pI 2 2), (45, z_al 0 1), (46, z_dup), (47, z_gL 2 3), (50, z_ll 2 1), (51, z_ladd), (52, z_pL 2 3), (55, z_vr)] : List (Nat × ZIns)), zSn 13 q := List.forall_mem_cons.mpr ⟨w_lload_n (by decide +kernel : decode (zb 13) 0 = .ok (.lload_n 2, 1)) rfl, List.forall_mem_cons.mpr ⟨w_lconst (by decide +kernel : decode (zb 13) 1 = .ok (.lconst 0, 1)) rfl, List.forall_mem_cons.mpr ⟨w_lcmp (by decide +kernel : decode (zb 13) 2 = .ok (.lcmp, 1)), List.forall_mem_cons.mpr ⟨w_ifle (by decide +kernel : decode (zb 13) 3 = .ok (.ifCond .le 52, 3)) rfl, List.forall_mem_cons.mpr ⟨w_aload_n (by decide +kernel : decode (zb 13) 6 = .ok (.aload_n 0, 1)) rfl, List.forall_mem_cons.mpr ⟨w_gI zw13 (j := 2) zo2 (by decide +kernel) zfk_HummingSet_Cases_19 rfl (by decide +kernel : decode (zb 13) 7 = .ok (.getfield 19, 3)), List.forall_mem_cons.mpr ⟨w_bipush (by decide +kernel : decode (zb 13) 10 = .ok (.bipush 37, 2)) rfl, List.forall_mem_cons.mpr ⟨w_ige (by decide +kernel : decode (zb 13) 12 = .ok (.if_icmp .ge 43, 3)) rfl, List.forall_mem_cons.mpr ⟨w_aload_n (by decide +kernel : decode (zb 13) 15 = .ok (.aload_n 0, 1)) rfl, List.forall_mem_cons.mpr ⟨w_gR zw13 (j := 0) zo2 (by decide +kernel) zfk_HummingSet_Cases_9 rfl (by decide +kernel : decode (zb 13) 16 = .ok (.getfield 9, 3)), List.forall_mem_cons.mpr ⟨w_aload_n (by decide +kernel : decode (zb 13) 19 = .ok (.aload_n 0, 1)) rfl, List.forall_mem_cons.mpr ⟨w_gI zw13 (j := 2) zo2 (by decide +kernel) zfk_HummingSet_Cases_19 rfl (by decide +kernel : decode (zb 13) 20 = .ok (.getfield 19, 3)), List.forall_mem_cons.mpr ⟨w_iload_n (by decide +kernel : decode (zb 13) 23 = .ok (.iload_n 1, 1)) rfl, List.forall_mem_cons.mpr ⟨w_iast (by decide +kernel : decode (zb 13) 24 = .ok (.iastore, 1)), List.forall_mem_cons.mpr ⟨w_aload_n (by decide +kernel : decode (zb 13) 25 = .ok (.aload_n 0, 1)) rfl, List.forall_mem_cons.mpr ⟨w_gR zw13 (j := 1) zo2 (by decide +kernel) zfk_HummingSet_Cases_15 rfl (by decide +kernel : decode (zb 13) 26 = .ok (.getfield 15, 3)), List.forall_mem_cons.mpr ⟨w_aload_n (by decide +kernel : decode (zb 13) 29 = .ok (.aload_n 0, 1)) rfl, List.forall_mem_cons.mpr ⟨w_gI zw13 (j := 2) zo2 (by decide +kernel) zfk_HummingSet_Cases_19 rfl (by decide +kernel : decode (zb 13) 30 = .ok (.getfield 19, 3)), List.forall_mem_cons.mpr ⟨w_lload_n (by decide +kernel : decode (zb 13) 33 = .ok (.lload_n 2, 1)) rfl, List.forall_mem_cons.mpr ⟨w_last (by decide +kernel : decode (zb 13) 34 = .ok (.lastore, 1)), List.forall_mem_cons.mpr ⟨w_aload_n (by decide +kernel : decode (zb 13) 35 = .ok (.aload_n 0, 1)) rfl, List.forall_mem_cons.mpr ⟨w_dup (by decide +kernel : decode (zb 13) 36 = .ok (.dup, 1)), List.forall_mem_cons.mpr ⟨w_gI zw13 (j := 2) zo2 (by decide +kernel) zfk_HummingSet_Cases_19 rfl (by decide +kernel : decode (zb 13) 37 = .ok (.getfield 19, 3)), List.forall_mem_cons.mpr ⟨w_iconst (by decide +kernel : decode (zb 13) 40 = .ok (.iconst 1, 1)) rfl, List.forall_mem_cons.mpr ⟨w_iadd (by decide +kernel : decode (zb 13) 41 = .ok (.iadd, 1)), List.forall_mem_cons.mpr ⟨w_pI zw13 (j := 2) zo2 (by decide +kernel) zfk_HummingSet_Cases_19 rfl rfl rfl (by decide +kernel : decode (zb 13) 42 = .ok (.putfield 19, 3)), List.forall_mem_cons.mpr ⟨w_aload_n (by decide +kernel : decode (zb 13) 45 = .ok (.aload_n 0, 1)) rfl, List.forall_mem_cons.mpr ⟨w_dup (by decide +kernel : decode (zb 13) 46 = .ok (.dup, 1)), List.forall_mem_cons.mpr ⟨w_gL zw13 (j := 3) zo2 (by decide +kernel) zfk_HummingSet_Cases_23 rfl (by decide +kernel : decode (zb 13) 47 = .ok (.getfield 23, 3)), List.forall_mem_cons.mpr ⟨w_lload_n (by decide +kernel : decode (zb 13) 50 = .ok (.lload_n 2, 1)) rfl, List.forall_mem_cons.mpr ⟨w_ladd (by decide +kernel : decode (zb 13) 51 = .ok (.ladd, 1)), List.forall_mem_cons.mpr ⟨w_pL zw13 (j := 3) zo2 (by decide +kernel) zfk_HummingSet_Cases_23 rfl rfl rfl (by decide +kernel : decode (zb 13) 52 = .ok (.putfield 23, 3)), List.forall_mem_cons.mpr ⟨w_vr (by decide +kernel : decode (zb 13) 55 = .ok (.return_, 1)) rfl, fun _ h => absurd h List.not_mem_nil⟩⟩⟩⟩⟩⟩⟩⟩⟩⟩⟩⟩⟩⟩⟩⟩⟩⟩⟩⟩⟩⟩⟩⟩⟩⟩⟩⟩⟩⟩⟩⟩⟩
theorem zs13 : ∀ q ∈ zc13, zSn 13 q := zs13_0
-- HummingSet$Cases.narrow(LHummingSet$Wireless;LHummingSet$Bench;LHummingSet$Answers;I)V
def zc14 : List (Nat × ZIns) := [(0, z_il 4 2), (2, z_iflt 14), (5, z_il 4 2), (7, z_al 3 1), (8, z_gI 0 4), (11, z_ilt 15), (14, z_vr), (15, z_al 0 1), (16, z_gI 2 2), (19, z_is 5 2), (21, z_al 0 1), (22, z_ic 0 1), (23, z_pI 2 2), (26, z_al 0 1), (27, z_lc 0 1), (28, z_pL 2 3), (31, z_ic 0 1), (32, z_is 6 2), (34, z_il 6 2), (36, z_il 5 2), (38, z_ige 112), (41, z_al 2 1), (42, z_al 1 1), (43, z_al 0 1), (44, z_gR 2 0), (47, z_il 6 2), (49, z_iald 20), (50, z_al 3 1), (51, z_gR 0 0), (54, z_il 4 2), (56, z_iald 20), (57, z_al 3 1), (58, z_gR 0 1), (61, z_il 4 2), (63, z_iald 20), (64, z_al 3 1), (65, z_gR 0 2), (68, z_il 4 2), (70, z_iald 20), (71, z_cV 1 9 7 5), (74, z_is 7 2), (76, z_il 7 2), (78, z_al 3 1), (79, z_gR 0 3), (82, z_il 4 2), (84, z_iald 20), (85, z_ine 106), (88, z_al 0 1), (89, z_al 0 1), (90, z_gR 2 0), (93, z_il 6 2), (95, z_iald 20), (96, z_al 0 1), (97, z_gR 2 1), (100, z_il 6 2), (102, z_lald), (103, z_cV 2 13 4 2), (106, z_inc 6 1), (109, z_goto 34), (112, z_vr)]
set_option maxRecDepth 100000 in
set_option maxHeartbeats 4000000 in
theorem zs14_0 : ∀ q ∈ ([(0, z_il 4 2), (2, z_iflt 14), (5, z_il 4 2), (7, z_al 3 1), (8, z_gI 0 4), (11, z_ilt 15), (14, z_vr), (15, z_al 0 1), (16, z_gI 2 2), (19, z_is 5 2), (21, z_al 0 1), (22, z_ic 0 1), (23, z_pI 2 2), (26, z_al 0 1), (27, z_lc 0 1), (28, z_pL 2 3), (31, z_ic 0 1), (32, z_is 6 2), (34, z_il 6 2), (36, z_il 5 2), (38, z_ige 112), (41, z_al 2 1), (42, z_al 1 1), (43, z_al 0 1), (44, z_gR 2 0), (47, z_il 6 2), (49, z_iald 20), (50, z_al 3 1), (51, z_gR 0 0), (54, z_il 4 2), (56, z_iald 20), (57, z_al 3 1), (58, z_gR 0 1), (61, z_il 4 2), (63, z_iald 20), (64, z_al 3 1), (65, z_gR 0 2), (68, z_il 4 2), (70, z_iald 20), (71, z_cV 1 9 7 5)] : List (Nat × ZIns)), zSn 14 q := List.forall_mem_cons.mpr ⟨w_iload (by decide +kernel : decode (zb 14) 0 = .ok (.iload 4, 2)), List.forall_mem_cons.mpr ⟨w_iflt (by decide +kernel : decode (zb 14) 2 = .ok (.ifCond .lt 12, 3)) rfl, List.forall_mem_cons.mpr ⟨w_iload (by decide +kernel : decode (zb 14) 5 = .ok (.iload 4, 2)), List.forall_mem_cons.mpr ⟨w_aload_n (by decide +kernel : decode (zb 14) 7 = .ok (.aload_n 3, 1)) rfl, List.forall_mem_cons.mpr ⟨w_gI zw14 (j := 4) zo0 (by decide +kernel) zfk_HummingSet_Cases_47 rfl (by decide +kernel : decode (zb 14) 8 = .ok (.getfield 47, 3)), List.forall_mem_cons.mpr ⟨w_ilt (by decide +kernel : decode (zb 14) 11 = .ok (.if_icmp .lt 4, 3)) rfl, List.forall_mem_cons.mpr ⟨w_vr (by decide +kernel : decode (zb 14) 14 = .ok (.return_, 1)) rfl, List.forall_mem_cons.mpr ⟨w_aload_n (by decide +kernel : decode (zb 14) 15 = .ok (.aload_n 0, 1)) rfl, List.forall_mem_cons.mpr ⟨w_gI zw14 (j := 2) zo2 (by decide +kernel) zfk_HummingSet_Cases_19 rfl (by decide +kernel : decode (zb 14) 16 = .ok (.getfield 19, 3)), List.forall_mem_cons.mpr ⟨w_istore (by decide +kernel : decode (zb 14) 19 = .ok (.istore 5, 2)), List.forall_mem_cons.mpr ⟨w_aload_n (by decide +kernel : decode (zb 14) 21 = .ok (.aload_n 0, 1)) rfl, List.forall_mem_cons.mpr ⟨w_iconst (by decide +kernel : decode (zb 14) 22 = .ok (.iconst 0, 1)) rfl, List.forall_mem_cons.mpr ⟨w_pI zw14 (j := 2) zo2 (by decide +kernel) zfk_HummingSet_Cases_19 rfl rfl rfl (by decide +kernel : decode (zb 14) 23 = .ok (.putfield 19, 3)), List.forall_mem_cons.mpr ⟨w_aload_n (by decide +kernel : decode (zb 14) 26 = .ok (.aload_n 0, 1)) rfl, List.forall_mem_cons.mpr ⟨w_lconst (by decide +kernel : decode (zb 14) 27 = .ok (.lconst 0, 1)) rfl, List.forall_mem_cons.mpr ⟨w_pL zw14 (j := 3) zo2 (by decide +kernel) zfk_HummingSet_Cases_23 rfl rfl rfl (by decide +kernel : decode (zb 14) 28 = .ok (.putfield 23, 3)), List.forall_mem_cons.mpr ⟨w_iconst (by decide +kernel : decode (zb 14) 31 = .ok (.iconst 0, 1)) rfl, List.forall_mem_cons.mpr ⟨w_istore (by decide +kernel : decode (zb 14) 32 = .ok (.istore 6, 2)), List.forall_mem_cons.mpr ⟨w_iload (by decide +kernel : decode (zb 14) 34 = .ok (.iload 6, 2)), List.forall_mem_cons.mpr ⟨w_iload (by decide +kernel : decode (zb 14) 36 = .ok (.iload 5, 2)), List.forall_mem_cons.mpr ⟨w_ige (by decide +kernel : decode (zb 14) 38 = .ok (.if_icmp .ge 74, 3)) rfl, List.forall_mem_cons.mpr ⟨w_aload_n (by decide +kernel : decode (zb 14) 41 = .ok (.aload_n 2, 1)) rfl, List.forall_mem_cons.mpr ⟨w_aload_n (by decide +kernel : decode (zb 14) 42 = .ok (.aload_n 1, 1)) rfl, List.forall_mem_cons.mpr ⟨w_aload_n (by decide +kernel : decode (zb 14) 43 = .ok (.aload_n 0, 1)) rfl, List.forall_mem_cons.mpr ⟨w_gR zw14 (j := 0) zo2 (by decide +kernel) zfk_HummingSet_Cases_9 rfl (by decide +kernel : decode (zb 14) 44 = .ok (.getfield 9, 3)), List.forall_mem_cons.mpr ⟨w_iload (by decide +kernel : decode (zb 14) 47 = .ok (.iload 6, 2)), List.forall_mem_cons.mpr ⟨w_iald (by decide +kernel : decode (zb 14) 49 = .ok (.iaload, 1)), List.forall_mem_cons.mpr ⟨w_aload_n (by decide +kernel : decode (zb 14) 50 = .ok (.aload_n 3, 1)) rfl, List.forall_mem_cons.mpr ⟨w_gR zw14 (j := 0) zo0 (by decide +kernel) zfk_HummingSet_Cases_50 rfl (by decide +kernel : decode (zb 14) 51 = .ok (.getfield 50, 3)), List.forall_mem_cons.mpr ⟨w_iload (by decide +kernel : decode (zb 14) 54 = .ok (.iload 4, 2)), List.forall_mem_cons.mpr ⟨w_iald (by decide +kernel : decode (zb 14) 56 = .ok (.iaload, 1)), List.forall_mem_cons.mpr ⟨w_aload_n (by decide +kernel : decode (zb 14) 57 = .ok (.aload_n 3, 1)) rfl, List.forall_mem_cons.mpr ⟨w_gR zw14 (j := 1) zo0 (by decide +kernel) zfk_HummingSet_Cases_53 rfl (by decide +kernel : decode (zb 14) 58 = .ok (.getfield 53, 3)), List.forall_mem_cons.mpr ⟨w_iload (by decide +kernel : decode (zb 14) 61 = .ok (.iload 4, 2)), List.forall_mem_cons.mpr ⟨w_iald (by decide +kernel : decode (zb 14) 63 = .ok (.iaload, 1)), List.forall_mem_cons.mpr ⟨w_aload_n (by decide +kernel : decode (zb 14) 64 = .ok (.aload_n 3, 1)) rfl, List.forall_mem_cons.mpr ⟨w_gR zw14 (j := 2) zo0 (by decide +kernel) zfk_HummingSet_Cases_56 rfl (by decide +kernel : decode (zb 14) 65 = .ok (.getfield 56, 3)), List.forall_mem_cons.mpr ⟨w_iload (by decide +kernel : decode (zb 14) 68 = .ok (.iload 4, 2)), List.forall_mem_cons.mpr ⟨w_iald (by decide +kernel : decode (zb 14) 70 = .ok (.iaload, 1)), List.forall_mem_cons.mpr ⟨w_cV zw14 zo1 rfl rfl zin9 zse9 zca9 (by decide +kernel) (by decide +kernel) zmk_HummingSet_Cases_59 (by decide +kernel : decode (zb 14) 71 = .ok (.invokevirtual 59, 3)), fun _ h => absurd h List.not_mem_nil⟩⟩⟩⟩⟩⟩⟩⟩⟩⟩⟩⟩⟩⟩⟩⟩⟩⟩⟩⟩⟩⟩⟩⟩⟩⟩⟩⟩⟩⟩⟩⟩⟩⟩⟩⟩⟩⟩⟩⟩
set_option maxRecDepth 100000 in
set_option maxHeartbeats 4000000 in
theorem zs14_1 : ∀ q ∈ ([(74, z_is 7 2), (76, z_il 7 2), (78, z_al 3 1), (79, z_gR 0 3), (82, z_il 4 2), (84, z_iald 20), (85, z_ine 106), (88, z_al 0 1), (89, z_al 0 1), (90, z_gR 2 0), (93, z_il 6 2), (95, z_iald 20), (96, z_al 0 1), (97, z_gR 2 1), (100, z_il 6 2), (102, z_lald), (103, z_cV 2 13 4 2), (106, z_inc 6 1), (109, z_goto 34), (112, z_vr)] : List (Nat × ZIns)), zSn 14 q := List.forall_mem_cons.mpr ⟨w_istore (by decide +kernel : decode (zb 14) 74 = .ok (.istore 7, 2)), List.forall_mem_cons.mpr ⟨w_iload (by decide +kernel : decode (zb 14) 76 = .ok (.iload 7, 2)), List.forall_mem_cons.mpr ⟨w_aload_n (by decide +kernel : decode (zb 14) 78 = .ok (.aload_n 3, 1)) rfl, List.forall_mem_cons.mpr ⟨w_gR zw14 (j := 3) zo0 (by decide +kernel) zfk_HummingSet_Cases_65 rfl (by decide +kernel : decode (zb 14) 79 = .ok (.getfield 65, 3)), List.forall_mem_cons.mpr ⟨w_iload (by decide +kernel : decode (zb 14) 82 = .ok (.iload 4, 2)), List.forall_mem_cons.mpr ⟨w_iald (by decide +kernel : decode (zb 14) 84 = .ok (.iaload, 1)), List.forall_mem_cons.mpr ⟨w_ine (by decide +kernel : decode (zb 14) 85 = .ok (.if_icmp .ne 21, 3)) rfl, List.forall_mem_cons.mpr ⟨w_aload_n (by decide +kernel : decode (zb 14) 88 = .ok (.aload_n 0, 1)) rfl, List.forall_mem_cons.mpr ⟨w_aload_n (by decide +kernel : decode (zb 14) 89 = .ok (.aload_n 0, 1)) rfl, List.forall_mem_cons.mpr ⟨w_gR zw14 (j := 0) zo2 (by decide +kernel) zfk_HummingSet_Cases_9 rfl (by decide +kernel : decode (zb 14) 90 = .ok (.getfield 9, 3)), List.forall_mem_cons.mpr ⟨w_iload (by decide +kernel : decode (zb 14) 93 = .ok (.iload 6, 2)), List.forall_mem_cons.mpr ⟨w_iald (by decide +kernel : decode (zb 14) 95 = .ok (.iaload, 1)), List.forall_mem_cons.mpr ⟨w_aload_n (by decide +kernel : decode (zb 14) 96 = .ok (.aload_n 0, 1)) rfl, List.forall_mem_cons.mpr ⟨w_gR zw14 (j := 1) zo2 (by decide +kernel) zfk_HummingSet_Cases_15 rfl (by decide +kernel : decode (zb 14) 97 = .ok (.getfield 15, 3)), List.forall_mem_cons.mpr ⟨w_iload (by decide +kernel : decode (zb 14) 100 = .ok (.iload 6, 2)), List.forall_mem_cons.mpr ⟨w_lald (by decide +kernel : decode (zb 14) 102 = .ok (.laload, 1)), List.forall_mem_cons.mpr ⟨w_cV zw14 zo2 rfl rfl zin13 zse13 zca13 (by decide +kernel) (by decide +kernel) zmk_HummingSet_Cases_43 (by decide +kernel : decode (zb 14) 103 = .ok (.invokevirtual 43, 3)), List.forall_mem_cons.mpr ⟨w_iinc (by decide +kernel : decode (zb 14) 106 = .ok (.iinc 6 1, 3)) rfl, List.forall_mem_cons.mpr ⟨w_goto (by decide +kernel : decode (zb 14) 109 = .ok (.goto (-75), 3)) rfl, List.forall_mem_cons.mpr ⟨w_vr (by decide +kernel : decode (zb 14) 112 = .ok (.return_, 1)) rfl, fun _ h => absurd h List.not_mem_nil⟩⟩⟩⟩⟩⟩⟩⟩⟩⟩⟩⟩⟩⟩⟩⟩⟩⟩⟩⟩
theorem zs14 : ∀ q ∈ zc14, zSn 14 q := List.forall_mem_append.mpr ⟨zs14_0, zs14_1⟩
-- HummingSet$Cases.weightWith(I)J
def zc15 : List (Nat × ZIns) := [(0, z_lc 0 1), (1, z_ls 2 1), (2, z_ic 0 1), (3, z_is 4 2), (5, z_il 4 2), (7, z_al 0 1), (8, z_gI 2 2), (11, z_ige 44), (14, z_al 0 1), (15, z_gR 2 0), (18, z_il 4 2), (20, z_iald 20), (21, z_ic 1 1), (22, z_il 1 1), (23, z_ishl), (24, z_iand), (25, z_ifeq 38), (28, z_ll 2 1), (29, z_al 0 1), (30, z_gR 2 1), (33, z_il 4 2), (35, z_lald), (36, z_ladd), (37, z_ls 2 1), (38, z_inc 4 1), (41, z_goto 5), (44, z_ll 2 1), (45, z_lr)]
set_option maxRecDepth 100000 in
set_option maxHeartbeats 4000000 in
theorem zs15_0 : ∀ q ∈ ([(0, z_lc 0 1), (1, z_ls 2 1), (2, z_ic 0 1), (3, z_is 4 2), (5, z_il 4 2), (7, z_al 0 1), (8, z_gI 2 2), (11, z_ige 44), (14, z_al 0 1), (15, z_gR 2 0), (18, z_il 4 2), (20, z_iald 20), (21, z_ic 1 1), (22, z_il 1 1), (23, z_ishl), (24, z_iand), (25, z_ifeq 38), (28, z_ll 2 1), (29, z_al 0 1), (30, z_gR 2 1), (33, z_il 4 2), (35, z_lald), (36, z_ladd), (37, z_ls 2 1), (38, z_inc 4 1), (41, z_goto 5), (44, z_ll 2 1), (45, z_lr)] : List (Nat × ZIns)), zSn 15 q := List.forall_mem_cons.mpr ⟨w_lconst (by decide +kernel : decode (zb 15) 0 = .ok (.lconst 0, 1)) rfl, List.forall_mem_cons.mpr ⟨w_lstore_n (by decide +kernel : decode (zb 15) 1 = .ok (.lstore_n 2, 1)) rfl, List.forall_mem_cons.mpr ⟨w_iconst (by decide +kernel : decode (zb 15) 2 = .ok (.iconst 0, 1)) rfl, List.forall_mem_cons.mpr ⟨w_istore (by decide +kernel : decode (zb 15) 3 = .ok (.istore 4, 2)), List.forall_mem_cons.mpr ⟨w_iload (by decide +kernel : decode (zb 15) 5 = .ok (.iload 4, 2)), List.forall_mem_cons.mpr ⟨w_aload_n (by decide +kernel : decode (zb 15) 7 = .ok (.aload_n 0, 1)) rfl, List.forall_mem_cons.mpr ⟨w_gI zw15 (j := 2) zo2 (by decide +kernel) zfk_HummingSet_Cases_19 rfl (by decide +kernel : decode (zb 15) 8 = .ok (.getfield 19, 3)), List.forall_mem_cons.mpr ⟨w_ige (by decide +kernel : decode (zb 15) 11 = .ok (.if_icmp .ge 33, 3)) rfl, List.forall_mem_cons.mpr ⟨w_aload_n (by decide +kernel : decode (zb 15) 14 = .ok (.aload_n 0, 1)) rfl, List.forall_mem_cons.mpr ⟨w_gR zw15 (j := 0) zo2 (by decide +kernel) zfk_HummingSet_Cases_9 rfl (by decide +kernel : decode (zb 15) 15 = .ok (.getfield 9, 3)), List.forall_mem_cons.mpr ⟨w_iload (by decide +kernel : decode (zb 15) 18 = .ok (.iload 4, 2)), List.forall_mem_cons.mpr ⟨w_iald (by decide +kernel : decode (zb 15) 20 = .ok (.iaload, 1)), List.forall_mem_cons.mpr ⟨w_iconst (by decide +kernel : decode (zb 15) 21 = .ok (.iconst 1, 1)) rfl, List.forall_mem_cons.mpr ⟨w_iload_n (by decide +kernel : decode (zb 15) 22 = .ok (.iload_n 1, 1)) rfl, List.forall_mem_cons.mpr ⟨w_ishl (by decide +kernel : decode (zb 15) 23 = .ok (.ishl, 1)), List.forall_mem_cons.mpr ⟨w_iand (by decide +kernel : decode (zb 15) 24 = .ok (.iand, 1)), List.forall_mem_cons.mpr ⟨w_ifeq (by decide +kernel : decode (zb 15) 25 = .ok (.ifCond .eq 13, 3)) rfl, List.forall_mem_cons.mpr ⟨w_lload_n (by decide +kernel : decode (zb 15) 28 = .ok (.lload_n 2, 1)) rfl, List.forall_mem_cons.mpr ⟨w_aload_n (by decide +kernel : decode (zb 15) 29 = .ok (.aload_n 0, 1)) rfl, List.forall_mem_cons.mpr ⟨w_gR zw15 (j := 1) zo2 (by decide +kernel) zfk_HummingSet_Cases_15 rfl (by decide +kernel : decode (zb 15) 30 = .ok (.getfield 15, 3)), List.forall_mem_cons.mpr ⟨w_iload (by decide +kernel : decode (zb 15) 33 = .ok (.iload 4, 2)), List.forall_mem_cons.mpr ⟨w_lald (by decide +kernel : decode (zb 15) 35 = .ok (.laload, 1)), List.forall_mem_cons.mpr ⟨w_ladd (by decide +kernel : decode (zb 15) 36 = .ok (.ladd, 1)), List.forall_mem_cons.mpr ⟨w_lstore_n (by decide +kernel : decode (zb 15) 37 = .ok (.lstore_n 2, 1)) rfl, List.forall_mem_cons.mpr ⟨w_iinc (by decide +kernel : decode (zb 15) 38 = .ok (.iinc 4 1, 3)) rfl, List.forall_mem_cons.mpr ⟨w_goto (by decide +kernel : decode (zb 15) 41 = .ok (.goto (-36), 3)) rfl, List.forall_mem_cons.mpr ⟨w_lload_n (by decide +kernel : decode (zb 15) 44 = .ok (.lload_n 2, 1)) rfl, List.forall_mem_cons.mpr ⟨w_lr (by decide +kernel : decode (zb 15) 45 = .ok (.lreturn, 1)) rfl, fun _ h => absurd h List.not_mem_nil⟩⟩⟩⟩⟩⟩⟩⟩⟩⟩⟩⟩⟩⟩⟩⟩⟩⟩⟩⟩⟩⟩⟩⟩⟩⟩⟩⟩
theorem zs15 : ∀ q ∈ zc15, zSn 15 q := zs15_0
-- HummingSet$Cases.heaviest()I
def zc16 : List (Nat × ZIns) := [(0, z_ic (-4) 2), (2, z_is 1 1), (3, z_lc 0 1), (4, z_ls 2 1), (5, z_ic 0 1), (6, z_is 4 2), (8, z_il 4 2), (10, z_al 0 1), (11, z_gI 2 2), (14, z_ige 51), (17, z_al 0 1), (18, z_gR 2 1), (21, z_il 4 2), (23, z_lald), (24, z_ll 2 1), (25, z_lcmp), (26, z_ifle 45), (29, z_al 0 1), (30, z_gR 2 1), (33, z_il 4 2), (35, z_lald), (36, z_ls 2 1), (37, z_al 0 1), (38, z_gR 2 0), (41, z_il 4 2), (43, z_iald 20), (44, z_is 1 1), (45, z_inc 4 1), (48, z_goto 8), (51, z_il 1 1), (52, z_ir)]
set_option maxRecDepth 100000 in
set_option maxHeartbeats 4000000 in
theorem zs16_0 : ∀ q ∈ ([(0, z_ic (-4) 2), (2, z_is 1 1), (3, z_lc 0 1), (4, z_ls 2 1), (5, z_ic 0 1), (6, z_is 4 2), (8, z_il 4 2), (10, z_al 0 1), (11, z_gI 2 2), (14, z_ige 51), (17, z_al 0 1), (18, z_gR 2 1), (21, z_il 4 2), (23, z_lald), (24, z_ll 2 1), (25, z_lcmp), (26, z_ifle 45), (29, z_al 0 1), (30, z_gR 2 1), (33, z_il 4 2), (35, z_lald), (36, z_ls 2 1), (37, z_al 0 1), (38, z_gR 2 0), (41, z_il 4 2), (43, z_iald 20), (44, z_is 1 1), (45, z_inc 4 1), (48, z_goto 8), (51, z_il 1 1), (52, z_ir)] : List (Nat × ZIns)), zSn 16 q := List.forall_mem_cons.mpr ⟨w_bipush (by decide +kernel : decode (zb 16) 0 = .ok (.bipush (-4), 2)) rfl, List.forall_mem_cons.mpr ⟨w_istore_n (by decide +kernel : decode (zb 16) 2 = .ok (.istore_n 1, 1)) rfl, List.forall_mem_cons.mpr ⟨w_lconst (by decide +kernel : decode (zb 16) 3 = .ok (.lconst 0, 1)) rfl, List.forall_mem_cons.mpr ⟨w_lstore_n (by decide +kernel : decode (zb 16) 4 = .ok (.lstore_n 2, 1)) rfl, List.forall_mem_cons.mpr ⟨w_iconst (by decide +kernel : decode (zb 16) 5 = .ok (.iconst 0, 1)) rfl, List.forall_mem_cons.mpr ⟨w_istore (by decide +kernel : decode (zb 16) 6 = .ok (.istore 4, 2)), List.forall_mem_cons.mpr ⟨w_iload (by decide +kernel : decode (zb 16) 8 = .ok (.iload 4, 2)), List.forall_mem_cons.mpr ⟨w_aload_n (by decide +kernel : decode (zb 16) 10 = .ok (.aload_n 0, 1)) rfl, List.forall_mem_cons.mpr ⟨w_gI zw16 (j := 2) zo2 (by decide +kernel) zfk_HummingSet_Cases_19 rfl (by decide +kernel : decode (zb 16) 11 = .ok (.getfield 19, 3)), List.forall_mem_cons.mpr ⟨w_ige (by decide +kernel : decode (zb 16) 14 = .ok (.if_icmp .ge 37, 3)) rfl, List.forall_mem_cons.mpr ⟨w_aload_n (by decide +kernel : decode (zb 16) 17 = .ok (.aload_n 0, 1)) rfl, List.forall_mem_cons.mpr ⟨w_gR zw16 (j := 1) zo2 (by decide +kernel) zfk_HummingSet_Cases_15 rfl (by decide +kernel : decode (zb 16) 18 = .ok (.getfield 15, 3)), List.forall_mem_cons.mpr ⟨w_iload (by decide +kernel : decode (zb 16) 21 = .ok (.iload 4, 2)), List.forall_mem_cons.mpr ⟨w_lald (by decide +kernel : decode (zb 16) 23 = .ok (.laload, 1)), List.forall_mem_cons.mpr ⟨w_lload_n (by decide +kernel : decode (zb 16) 24 = .ok (.lload_n 2, 1)) rfl, List.forall_mem_cons.mpr ⟨w_lcmp (by decide +kernel : decode (zb 16) 25 = .ok (.lcmp, 1)), List.forall_mem_cons.mpr ⟨w_ifle (by decide +kernel : decode (zb 16) 26 = .ok (.ifCond .le 19, 3)) rfl, List.forall_mem_cons.mpr ⟨w_aload_n (by decide +kernel : decode (zb 16) 29 = .ok (.aload_n 0, 1)) rfl, List.forall_mem_cons.mpr ⟨w_gR zw16 (j := 1) zo2 (by decide +kernel) zfk_HummingSet_Cases_15 rfl (by decide +kernel : decode (zb 16) 30 = .ok (.getfield 15, 3)), List.forall_mem_cons.mpr ⟨w_iload (by decide +kernel : decode (zb 16) 33 = .ok (.iload 4, 2)), List.forall_mem_cons.mpr ⟨w_lald (by decide +kernel : decode (zb 16) 35 = .ok (.laload, 1)), List.forall_mem_cons.mpr ⟨w_lstore_n (by decide +kernel : decode (zb 16) 36 = .ok (.lstore_n 2, 1)) rfl, List.forall_mem_cons.mpr ⟨w_aload_n (by decide +kernel : decode (zb 16) 37 = .ok (.aload_n 0, 1)) rfl, List.forall_mem_cons.mpr ⟨w_gR zw16 (j := 0) zo2 (by decide +kernel) zfk_HummingSet_Cases_9 rfl (by decide +kernel : decode (zb 16) 38 = .ok (.getfield 9, 3)), List.forall_mem_cons.mpr ⟨w_iload (by decide +kernel : decode (zb 16) 41 = .ok (.iload 4, 2)), List.forall_mem_cons.mpr ⟨w_iald (by decide +kernel : decode (zb 16) 43 = .ok (.iaload, 1)), List.forall_mem_cons.mpr ⟨w_istore_n (by decide +kernel : decode (zb 16) 44 = .ok (.istore_n 1, 1)) rfl, List.forall_mem_cons.mpr ⟨w_iinc (by decide +kernel : decode (zb 16) 45 = .ok (.iinc 4 1, 3)) rfl, List.forall_mem_cons.mpr ⟨w_goto (by decide +kernel : decode (zb 16) 48 = .ok (.goto (-40), 3)) rfl, List.forall_mem_cons.mpr ⟨w_iload_n (by decide +kernel : decode (zb 16) 51 = .ok (.iload_n 1, 1)) rfl, List.forall_mem_cons.mpr ⟨w_ir (by decide +kernel : decode (zb 16) 52 = .ok (.ireturn, 1)) rfl, fun _ h => absurd h List.not_mem_nil⟩⟩⟩⟩⟩⟩⟩⟩⟩⟩⟩⟩⟩⟩⟩⟩⟩⟩⟩⟩⟩⟩⟩⟩⟩⟩⟩⟩⟩⟩⟩
theorem zs16 : ∀ q ∈ zc16, zSn 16 q := zs16_0
-- HummingSet$Part.<init>()V
def zc17 : List (Nat × ZIns) := []
theorem zs17 : ∀ q ∈ zc17, zSn 17 q := fun _ h => absurd h List.not_mem_nil
-- HummingSet$Part.voltsLess(I)I
def zc18 : List (Nat × ZIns) := [(0, z_ic 0 1), (1, z_il 1 1), (2, z_il 1 1), (3, z_al 0 1), (4, z_gI 3 8), (7, z_imul), (8, z_ic 100 2), (10, z_idiv), (11, z_isub), (12, z_ic 1 1), (13, z_isub), (14, z_mmax), (17, z_ir)]
set_option maxRecDepth 100000 in
set_option maxHeartbeats 4000000 in
theorem zs18_0 : ∀ q ∈ ([(0, z_ic 0 1), (1, z_il 1 1), (2, z_il 1 1), (3, z_al 0 1), (4, z_gI 3 8), (7, z_imul), (8, z_ic 100 2), (10, z_idiv), (11, z_isub), (12, z_ic 1 1), (13, z_isub), (14, z_mmax), (17, z_ir)] : List (Nat × ZIns)), zSn 18 q := List.forall_mem_cons.mpr ⟨w_iconst (by decide +kernel : decode (zb 18) 0 = .ok (.iconst 0, 1)) rfl, List.forall_mem_cons.mpr ⟨w_iload_n (by decide +kernel : decode (zb 18) 1 = .ok (.iload_n 1, 1)) rfl, List.forall_mem_cons.mpr ⟨w_iload_n (by decide +kernel : decode (zb 18) 2 = .ok (.iload_n 1, 1)) rfl, List.forall_mem_cons.mpr ⟨w_aload_n (by decide +kernel : decode (zb 18) 3 = .ok (.aload_n 0, 1)) rfl, List.forall_mem_cons.mpr ⟨w_gI zw18 (j := 8) zo3 (by decide +kernel) zfk_HummingSet_Part_15 rfl (by decide +kernel : decode (zb 18) 4 = .ok (.getfield 15, 3)), List.forall_mem_cons.mpr ⟨w_imul (by decide +kernel : decode (zb 18) 7 = .ok (.imul, 1)), List.forall_mem_cons.mpr ⟨w_bipush (by decide +kernel : decode (zb 18) 8 = .ok (.bipush 100, 2)) rfl, List.forall_mem_cons.mpr ⟨w_idiv (by decide +kernel : decode (zb 18) 10 = .ok (.idiv, 1)), List.forall_mem_cons.mpr ⟨w_isub (by decide +kernel : decode (zb 18) 11 = .ok (.isub, 1)), List.forall_mem_cons.mpr ⟨w_iconst (by decide +kernel : decode (zb 18) 12 = .ok (.iconst 1, 1)) rfl, List.forall_mem_cons.mpr ⟨w_isub (by decide +kernel : decode (zb 18) 13 = .ok (.isub, 1)), List.forall_mem_cons.mpr ⟨w_mmax zw18 zmaL_mmax_HummingSet_Part_19 zmaS_mmax zmaI zmaC_mmax (by decide +kernel) (by decide +kernel : decode (zb 18) 14 = .ok (.invokestatic 19, 3)), List.forall_mem_cons.mpr ⟨w_ir (by decide +kernel : decode (zb 18) 17 = .ok (.ireturn, 1)) rfl, fun _ h => absurd h List.not_mem_nil⟩⟩⟩⟩⟩⟩⟩⟩⟩⟩⟩⟩⟩
theorem zs18 : ∀ q ∈ zc18, zSn 18 q := zs18_0
-- HummingSet$Part.voltsAfter(I)I
def zc19 : List (Nat × ZIns) := [(0, z_al 0 1), (1, z_gI 3 7), (4, z_is 2 1), (5, z_ic 0 1), (6, z_is 3 1), (7, z_il 3 1), (8, z_il 1 1), (9, z_ige 28), (12, z_il 2 1), (13, z_ifle 28), (16, z_al 0 1), (17, z_il 2 1), (18, z_cV 3 18 2 1), (21, z_is 2 1), (22, z_inc 3 1), (25, z_goto 7), (28, z_il 2 1), (29, z_ir)]
set_option maxRecDepth 100000 in
set_option maxHeartbeats 4000000 in
theorem zs19_0 : ∀ q ∈ ([(0, z_al 0 1), (1, z_gI 3 7), (4, z_is 2 1), (5, z_ic 0 1), (6, z_is 3 1), (7, z_il 3 1), (8, z_il 1 1), (9, z_ige 28), (12, z_il 2 1), (13, z_ifle 28), (16, z_al 0 1), (17, z_il 2 1), (18, z_cV 3 18 2 1), (21, z_is 2 1), (22, z_inc 3 1), (25, z_goto 7), (28, z_il 2 1), (29, z_ir)] : List (Nat × ZIns)), zSn 19 q := List.forall_mem_cons.mpr ⟨w_aload_n (by decide +kernel : decode (zb 19) 0 = .ok (.aload_n 0, 1)) rfl, List.forall_mem_cons.mpr ⟨w_gI zw19 (j := 7) zo3 (by decide +kernel) zfk_HummingSet_Part_25 rfl (by decide +kernel : decode (zb 19) 1 = .ok (.getfield 25, 3)), List.forall_mem_cons.mpr ⟨w_istore_n (by decide +kernel : decode (zb 19) 4 = .ok (.istore_n 2, 1)) rfl, List.forall_mem_cons.mpr ⟨w_iconst (by decide +kernel : decode (zb 19) 5 = .ok (.iconst 0, 1)) rfl, List.forall_mem_cons.mpr ⟨w_istore_n (by decide +kernel : decode (zb 19) 6 = .ok (.istore_n 3, 1)) rfl, List.forall_mem_cons.mpr ⟨w_iload_n (by decide +kernel : decode (zb 19) 7 = .ok (.iload_n 3, 1)) rfl, List.forall_mem_cons.mpr ⟨w_iload_n (by decide +kernel : decode (zb 19) 8 = .ok (.iload_n 1, 1)) rfl, List.forall_mem_cons.mpr ⟨w_ige (by decide +kernel : decode (zb 19) 9 = .ok (.if_icmp .ge 19, 3)) rfl, List.forall_mem_cons.mpr ⟨w_iload_n (by decide +kernel : decode (zb 19) 12 = .ok (.iload_n 2, 1)) rfl, List.forall_mem_cons.mpr ⟨w_ifle (by decide +kernel : decode (zb 19) 13 = .ok (.ifCond .le 15, 3)) rfl, List.forall_mem_cons.mpr ⟨w_aload_n (by decide +kernel : decode (zb 19) 16 = .ok (.aload_n 0, 1)) rfl, List.forall_mem_cons.mpr ⟨w_iload_n (by decide +kernel : decode (zb 19) 17 = .ok (.iload_n 2, 1)) rfl, List.forall_mem_cons.mpr ⟨w_cV zw19 zo3 rfl rfl zin18 zse18 zca18 (by decide +kernel) (by decide +kernel) zmk_HummingSet_Part_28 (by decide +kernel : decode (zb 19) 18 = .ok (.invokevirtual 28, 3)), List.forall_mem_cons.mpr ⟨w_istore_n (by decide +kernel : decode (zb 19) 21 = .ok (.istore_n 2, 1)) rfl, List.forall_mem_cons.mpr ⟨w_iinc (by decide +kernel : decode (zb 19) 22 = .ok (.iinc 3 1, 3)) rfl, List.forall_mem_cons.mpr ⟨w_goto (by decide +kernel : decode (zb 19) 25 = .ok (.goto (-18), 3)) rfl, List.forall_mem_cons.mpr ⟨w_iload_n (by decide +kernel : decode (zb 19) 28 = .ok (.iload_n 2, 1)) rfl, List.forall_mem_cons.mpr ⟨w_ir (by decide +kernel : decode (zb 19) 29 = .ok (.ireturn, 1)) rfl, fun _ h => absurd h List.not_mem_nil⟩⟩⟩⟩⟩⟩⟩⟩⟩⟩⟩⟩⟩⟩⟩⟩⟩⟩
theorem zs19 : ∀ q ∈ zc19, zSn 19 q := zs19_0
-- HummingSet$Part.minuteBelowShock()I
def zc20 : List (Nat × ZIns) := [(0, z_al 0 1), (1, z_gI 3 7), (4, z_is 1 1), (5, z_ic 0 1), (6, z_is 2 1), (7, z_il 2 1), (8, z_ic 999 3), (11, z_igt 32), (14, z_il 1 1), (15, z_ic 50 2), (17, z_ilt 32), (20, z_al 0 1), (21, z_il 1 1), (22, z_cV 3 18 2 1), (25, z_is 1 1), (26, z_inc 2 1), (29, z_goto 7), (32, z_il 2 1), (33, z_ir)]
set_option maxRecDepth 100000 in
set_option maxHeartbeats 4000000 in
theorem zs20_0 : ∀ q ∈ ([(0, z_al 0 1), (1, z_gI 3 7), (4, z_is 1 1), (5, z_ic 0 1), (6, z_is 2 1), (7, z_il 2 1), (8, z_ic 999 3), (11, z_igt 32), (14, z_il 1 1), (15, z_ic 50 2), (17, z_ilt 32), (20, z_al 0 1), (21, z_il 1 1), (22, z_cV 3 18 2 1), (25, z_is 1 1), (26, z_inc 2 1), (29, z_goto 7), (32, z_il 2 1), (33, z_ir)] : List (Nat × ZIns)), zSn 20 q := List.forall_mem_cons.mpr ⟨w_aload_n (by decide +kernel : decode (zb 20) 0 = .ok (.aload_n 0, 1)) rfl, List.forall_mem_cons.mpr ⟨w_gI zw20 (j := 7) zo3 (by decide +kernel) zfk_HummingSet_Part_25 rfl (by decide +kernel : decode (zb 20) 1 = .ok (.getfield 25, 3)), List.forall_mem_cons.mpr ⟨w_istore_n (by decide +kernel : decode (zb 20) 4 = .ok (.istore_n 1, 1)) rfl, List.forall_mem_cons.mpr ⟨w_iconst (by decide +kernel : decode (zb 20) 5 = .ok (.iconst 0, 1)) rfl, List.forall_mem_cons.mpr ⟨w_istore_n (by decide +kernel : decode (zb 20) 6 = .ok (.istore_n 2, 1)) rfl, List.forall_mem_cons.mpr ⟨w_iload_n (by decide +kernel : decode (zb 20) 7 = .ok (.iload_n 2, 1)) rfl, List.forall_mem_cons.mpr ⟨w_sipush (by decide +kernel : decode (zb 20) 8 = .ok (.sipush 999, 3)) rfl, List.forall_mem_cons.mpr ⟨w_igt (by decide +kernel : decode (zb 20) 11 = .ok (.if_icmp .gt 21, 3)) rfl, List.forall_mem_cons.mpr ⟨w_iload_n (by decide +kernel : decode (zb 20) 14 = .ok (.iload_n 1, 1)) rfl, List.forall_mem_cons.mpr ⟨w_bipush (by decide +kernel : decode (zb 20) 15 = .ok (.bipush 50, 2)) rfl, List.forall_mem_cons.mpr ⟨w_ilt (by decide +kernel : decode (zb 20) 17 = .ok (.if_icmp .lt 15, 3)) rfl, List.forall_mem_cons.mpr ⟨w_aload_n (by decide +kernel : decode (zb 20) 20 = .ok (.aload_n 0, 1)) rfl, List.forall_mem_cons.mpr ⟨w_iload_n (by decide +kernel : decode (zb 20) 21 = .ok (.iload_n 1, 1)) rfl, List.forall_mem_cons.mpr ⟨w_cV zw20 zo3 rfl rfl zin18 zse18 zca18 (by decide +kernel) (by decide +kernel) zmk_HummingSet_Part_28 (by decide +kernel : decode (zb 20) 22 = .ok (.invokevirtual 28, 3)), List.forall_mem_cons.mpr ⟨w_istore_n (by decide +kernel : decode (zb 20) 25 = .ok (.istore_n 1, 1)) rfl, List.forall_mem_cons.mpr ⟨w_iinc (by decide +kernel : decode (zb 20) 26 = .ok (.iinc 2 1, 3)) rfl, List.forall_mem_cons.mpr ⟨w_goto (by decide +kernel : decode (zb 20) 29 = .ok (.goto (-22), 3)) rfl, List.forall_mem_cons.mpr ⟨w_iload_n (by decide +kernel : decode (zb 20) 32 = .ok (.iload_n 2, 1)) rfl, List.forall_mem_cons.mpr ⟨w_ir (by decide +kernel : decode (zb 20) 33 = .ok (.ireturn, 1)) rfl, fun _ h => absurd h List.not_mem_nil⟩⟩⟩⟩⟩⟩⟩⟩⟩⟩⟩⟩⟩⟩⟩⟩⟩⟩⟩
theorem zs20 : ∀ q ∈ zc20, zSn 20 q := zs20_0
-- HummingSet$Plan.<init>()V
def zc21 : List (Nat × ZIns) := []
theorem zs21 : ∀ q ∈ zc21, zSn 21 q := fun _ h => absurd h List.not_mem_nil
-- HummingSet$Plan.learn(LHummingSet$Wireless;LHummingSet$Bench;)V
def zc22 : List (Nat × ZIns) := [(0, z_ic 0 1), (1, z_is 3 1), (2, z_il 3 1), (3, z_ic 256 3), (6, z_ige 60), (9, z_al 1 1), (10, z_il 3 1), (11, z_cV 10 48 2 1), (14, z_ifeq 60), (17, z_il 3 1), (18, z_cS 175 1 1), (21, z_ic 2 1), (22, z_igt 54), (25, z_al 2 1), (26, z_al 1 1), (27, z_il 3 1), (28, z_ic 30 2), (30, z_ic (-1) 1), (31, z_ic (-1) 1), (32, z_cV 1 4 9 5), (35, z_al 0 1), (36, z_gR 4 0), (39, z_il 3 1), (40, z_al 2 1), (41, z_al 1 1), (42, z_cV 1 6 4 1), (45, z_ifne 52), (48, z_ic 1 1), (49, z_goto 53), (52, z_ic 0 1), (53, z_zast), (54, z_inc 3 1), (57, z_goto 2), (60, z_vr)]
set_option maxRecDepth 100000 in
set_option maxHeartbeats 4000000 in
theorem zs22_0 : ∀ q ∈ ([(0, z_ic 0 1), (1, z_is 3 1), (2, z_il 3 1), (3, z_ic 256 3), (6, z_ige 60), (9, z_al 1 1), (10, z_il 3 1), (11, z_cV 10 48 2 1), (14, z_ifeq 60), (17, z_il 3 1), (18, z_cS 175 1 1), (21, z_ic 2 1), (22, z_igt 54), (25, z_al 2 1), (26, z_al 1 1), (27, z_il 3 1), (28, z_ic 30 2), (30, z_ic (-1) 1), (31, z_ic (-1) 1), (32, z_cV 1 4 9 5), (35, z_al 0 1), (36, z_gR 4 0), (39, z_il 3 1), (40, z_al 2 1), (41, z_al 1 1), (42, z_cV 1 6 4 1), (45, z_ifne 52), (48, z_ic 1 1), (49, z_goto 53), (52, z_ic 0 1), (53, z_zast), (54, z_inc 3 1), (57, z_goto 2), (60, z_vr)] : List (Nat × ZIns)), zSn 22 q := List.forall_mem_cons.mpr ⟨w_iconst (by decide +kernel : decode (zb 22) 0 = .ok (.iconst 0, 1)) rfl, List.forall_mem_cons.mpr ⟨w_istore_n (by decide +kernel : decode (zb 22) 1 = .ok (.istore_n 3, 1)) rfl, List.forall_mem_cons.mpr ⟨w_iload_n (by decide +kernel : decode (zb 22) 2 = .ok (.iload_n 3, 1)) rfl, List.forall_mem_cons.mpr ⟨w_sipush (by decide +kernel : decode (zb 22) 3 = .ok (.sipush 256, 3)) rfl, List.forall_mem_cons.mpr ⟨w_ige (by decide +kernel : decode (zb 22) 6 = .ok (.if_icmp .ge 54, 3)) rfl, List.forall_mem_cons.mpr ⟨w_aload_n (by decide +kernel : decode (zb 22) 9 = .ok (.aload_n 1, 1)) rfl, List.forall_mem_cons.mpr ⟨w_iload_n (by decide +kernel : decode (zb 22) 10 = .ok (.iload_n 3, 1)) rfl, List.forall_mem_cons.mpr ⟨w_cV zw22 zo10 rfl rfl zin48 zse48 zca48 (by decide +kernel) (by decide +kernel) zmk_HummingSet_Plan_19 (by decide +kernel : decode (zb 22) 11 = .ok (.invokevirtual 19, 3)), List.forall_mem_cons.mpr ⟨w_ifeq (by decide +kernel : decode (zb 22) 14 = .ok (.ifCond .eq 46, 3)) rfl, List.forall_mem_cons.mpr ⟨w_iload_n (by decide +kernel : decode (zb 22) 17 = .ok (.iload_n 3, 1)) rfl, List.forall_mem_cons.mpr ⟨w_cS zw22 rfl zst175 zca175 (by decide +kernel) (by decide +kernel) zmk_HummingSet_Plan_25 (by decide +kernel : decode (zb 22) 18 = .ok (.invokestatic 25, 3)), List.forall_mem_cons.mpr ⟨w_iconst (by decide +kernel : decode (zb 22) 21 = .ok (.iconst 2, 1)) rfl, List.forall_mem_cons.mpr ⟨w_igt (by decide +kernel : decode (zb 22) 22 = .ok (.if_icmp .gt 32, 3)) rfl, List.forall_mem_cons.mpr ⟨w_aload_n (by decide +kernel : decode (zb 22) 25 = .ok (.aload_n 2, 1)) rfl, List.forall_mem_cons.mpr ⟨w_aload_n (by decide +kernel : decode (zb 22) 26 = .ok (.aload_n 1, 1)) rfl, List.forall_mem_cons.mpr ⟨w_iload_n (by decide +kernel : decode (zb 22) 27 = .ok (.iload_n 3, 1)) rfl, List.forall_mem_cons.mpr ⟨w_bipush (by decide +kernel : decode (zb 22) 28 = .ok (.bipush 30, 2)) rfl, List.forall_mem_cons.mpr ⟨w_iconst (by decide +kernel : decode (zb 22) 30 = .ok (.iconst (-1), 1)) rfl, List.forall_mem_cons.mpr ⟨w_iconst (by decide +kernel : decode (zb 22) 31 = .ok (.iconst (-1), 1)) rfl, List.forall_mem_cons.mpr ⟨w_cV zw22 zo1 rfl rfl zin4 zse4 zca4 (by decide +kernel) (by decide +kernel) zmk_HummingSet_Plan_31 (by decide +kernel : decode (zb 22) 32 = .ok (.invokevirtual 31, 3)), List.forall_mem_cons.mpr ⟨w_aload_n (by decide +kernel : decode (zb 22) 35 = .ok (.aload_n 0, 1)) rfl, List.forall_mem_cons.mpr ⟨w_gR zw22 (j := 0) zo4 (by decide +kernel) zfk_HummingSet_Plan_9 rfl (by decide +kernel : decode (zb 22) 36 = .ok (.getfield 9, 3)), List.forall_mem_cons.mpr ⟨w_iload_n (by decide +kernel : decode (zb 22) 39 = .ok (.iload_n 3, 1)) rfl, List.forall_mem_cons.mpr ⟨w_aload_n (by decide +kernel : decode (zb 22) 40 = .ok (.aload_n 2, 1)) rfl, List.forall_mem_cons.mpr ⟨w_aload_n (by decide +kernel : decode (zb 22) 41 = .ok (.aload_n 1, 1)) rfl, List.forall_mem_cons.mpr ⟨w_cV zw22 zo1 rfl rfl zin6 zse6 zca6 (by decide +kernel) (by decide +kernel) zmk_HummingSet_Plan_37 (by decide +kernel : decode (zb 22) 42 = .ok (.invokevirtual 37, 3)), List.forall_mem_cons.mpr ⟨w_ifne (by decide +kernel : decode (zb 22) 45 = .ok (.ifCond .ne 7, 3)) rfl, List.forall_mem_cons.mpr ⟨w_iconst (by decide +kernel : decode (zb 22) 48 = .ok (.iconst 1, 1)) rfl, List.forall_mem_cons.mpr ⟨w_goto (by decide +kernel : decode (zb 22) 49 = .ok (.goto 4, 3)) rfl, List.forall_mem_cons.mpr ⟨w_iconst (by decide +kernel : decode (zb 22) 52 = .ok (.iconst 0, 1)) rfl, List.forall_mem_cons.mpr ⟨w_zast (by decide +kernel : decode (zb 22) 53 = .ok (.bastore, 1)), List.forall_mem_cons.mpr ⟨w_iinc (by decide +kernel : decode (zb 22) 54 = .ok (.iinc 3 1, 3)) rfl, List.forall_mem_cons.mpr ⟨w_goto (by decide +kernel : decode (zb 22) 57 = .ok (.goto (-55), 3)) rfl, List.forall_mem_cons.mpr ⟨w_vr (by decide +kernel : decode (zb 22) 60 = .ok (.return_, 1)) rfl, fun _ h => absurd h List.not_mem_nil⟩⟩⟩⟩⟩⟩⟩⟩⟩⟩⟩⟩⟩⟩⟩⟩⟩⟩⟩⟩⟩⟩⟩⟩⟩⟩⟩⟩⟩⟩⟩⟩⟩⟩
theorem zs22 : ∀ q ∈ zc22, zSn 22 q := zs22_0
-- HummingSet$Plan.noisyWeight(LHummingSet$Cases;I)J
def zc23 : List (Nat × ZIns) := [(0, z_lc 0 1), (1, z_ls 3 1), (2, z_ic 0 1), (3, z_is 5 2), (5, z_il 5 2), (7, z_al 1 1), (8, z_gI 2 2), (11, z_ige 66), (14, z_al 1 1), (15, z_gR 2 0), (18, z_il 5 2), (20, z_iald 20), (21, z_il 2 1), (22, z_ic (-1) 1), (23, z_ixor), (24, z_iand), (25, z_is 6 2), (27, z_il 6 2), (29, z_iflt 60), (32, z_il 6 2), (34, z_ic 256 3), (37, z_ige 60), (40, z_al 0 1), (41, z_gR 4 0), (44, z_il 6 2), (46, z_iald 23), (47, z_ifne 60), (50, z_ll 3 1), (51, z_al 1 1), (52, z_gR 2 1), (55, z_il 5 2), (57, z_lald), (58, z_ladd), (59, z_ls 3 1), (60, z_inc 5 1), (63, z_goto 5), (66, z_ll 3 1), (67, z_lr)]
set_option maxRecDepth 100000 in
set_option maxHeartbeats 4000000 in
theorem zs23_0 : ∀ q ∈ ([(0, z_lc 0 1), (1, z_ls 3 1), (2, z_ic 0 1), (3, z_is 5 2), (5, z_il 5 2), (7, z_al 1 1), (8, z_gI 2 2), (11, z_ige 66), (14, z_al 1 1), (15, z_gR 2 0), (18, z_il 5 2), (20, z_iald 20), (21, z_il 2 1), (22, z_ic (-1) 1), (23, z_ixor), (24, z_iand), (25, z_is 6 2), (27, z_il 6 2), (29, z_iflt 60), (32, z_il 6 2), (34, z_ic 256 3), (37, z_ige 60), (40, z_al 0 1), (41, z_gR 4 0), (44, z_il 6 2), (46, z_iald 23), (47, z_ifne 60), (50, z_ll 3 1), (51, z_al 1 1), (52, z_gR 2 1), (55, z_il 5 2), (57, z_lald), (58, z_ladd), (59, z_ls 3 1), (60, z_inc 5 1), (63, z_goto 5), (66, z_ll 3 1), (67, z_lr)] : List (Nat × ZIns)), zSn 23 q := List.forall_mem_cons.mpr ⟨w_lconst (by decide +kernel : decode (zb 23) 0 = .ok (.lconst 0, 1)) rfl, List.forall_mem_cons.mpr ⟨w_lstore_n (by decide +kernel : decode (zb 23) 1 = .ok (.lstore_n 3, 1)) rfl, List.forall_mem_cons.mpr ⟨w_iconst (by decide +kernel : decode (zb 23) 2 = .ok (.iconst 0, 1)) rfl, List.forall_mem_cons.mpr ⟨w_istore (by decide +kernel : decode (zb 23) 3 = .ok (.istore 5, 2)), List.forall_mem_cons.mpr ⟨w_iload (by decide +kernel : decode (zb 23) 5 = .ok (.iload 5, 2)), List.forall_mem_cons.mpr ⟨w_aload_n (by decide +kernel : decode (zb 23) 7 = .ok (.aload_n 1, 1)) rfl, List.forall_mem_cons.mpr ⟨w_gI zw23 (j := 2) zo2 (by decide +kernel) zfk_HummingSet_Plan_41 rfl (by decide +kernel : decode (zb 23) 8 = .ok (.getfield 41, 3)), List.forall_mem_cons.mpr ⟨w_ige (by decide +kernel : decode (zb 23) 11 = .ok (.if_icmp .ge 55, 3)) rfl, List.forall_mem_cons.mpr ⟨w_aload_n (by decide +kernel : decode (zb 23) 14 = .ok (.aload_n 1, 1)) rfl, List.forall_mem_cons.mpr ⟨w_gR zw23 (j := 0) zo2 (by decide +kernel) zfk_HummingSet_Plan_47 rfl (by decide +kernel : decode (zb 23) 15 = .ok (.getfield 47, 3)), List.forall_mem_cons.mpr ⟨w_iload (by decide +kernel : decode (zb 23) 18 = .ok (.iload 5, 2)), List.forall_mem_cons.mpr ⟨w_iald (by decide +kernel : decode (zb 23) 20 = .ok (.iaload, 1)), List.forall_mem_cons.mpr ⟨w_iload_n (by decide +kernel : decode (zb 23) 21 = .ok (.iload_n 2, 1)) rfl, List.forall_mem_cons.mpr ⟨w_iconst (by decide +kernel : decode (zb 23) 22 = .ok (.iconst (-1), 1)) rfl, List.forall_mem_cons.mpr ⟨w_ixor (by decide +kernel : decode (zb 23) 23 = .ok (.ixor, 1)), List.forall_mem_cons.mpr ⟨w_iand (by decide +kernel : decode (zb 23) 24 = .ok (.iand, 1)), List.forall_mem_cons.mpr ⟨w_istore (by decide +kernel : decode (zb 23) 25 = .ok (.istore 6, 2)), List.forall_mem_cons.mpr ⟨w_iload (by decide +kernel : decode (zb 23) 27 = .ok (.iload 6, 2)), List.forall_mem_cons.mpr ⟨w_iflt (by decide +kernel : decode (zb 23) 29 = .ok (.ifCond .lt 31, 3)) rfl, List.forall_mem_cons.mpr ⟨w_iload (by decide +kernel : decode (zb 23) 32 = .ok (.iload 6, 2)), List.forall_mem_cons.mpr ⟨w_sipush (by decide +kernel : decode (zb 23) 34 = .ok (.sipush 256, 3)) rfl, List.forall_mem_cons.mpr ⟨w_ige (by decide +kernel : decode (zb 23) 37 = .ok (.if_icmp .ge 23, 3)) rfl, List.forall_mem_cons.mpr ⟨w_aload_n (by decide +kernel : decode (zb 23) 40 = .ok (.aload_n 0, 1)) rfl, List.forall_mem_cons.mpr ⟨w_gR zw23 (j := 0) zo4 (by decide +kernel) zfk_HummingSet_Plan_9 rfl (by decide +kernel : decode (zb 23) 41 = .ok (.getfield 9, 3)), List.forall_mem_cons.mpr ⟨w_iload (by decide +kernel : decode (zb 23) 44 = .ok (.iload 6, 2)), List.forall_mem_cons.mpr ⟨w_zald (by decide +kernel : decode (zb 23) 46 = .ok (.baload, 1)), List.forall_mem_cons.mpr ⟨w_ifne (by decide +kernel : decode (zb 23) 47 = .ok (.ifCond .ne 13, 3)) rfl, List.forall_mem_cons.mpr ⟨w_lload_n (by decide +kernel : decode (zb 23) 50 = .ok (.lload_n 3, 1)) rfl, List.forall_mem_cons.mpr ⟨w_aload_n (by decide +kernel : decode (zb 23) 51 = .ok (.aload_n 1, 1)) rfl, List.forall_mem_cons.mpr ⟨w_gR zw23 (j := 1) zo2 (by decide +kernel) zfk_HummingSet_Plan_51 rfl (by decide +kernel : decode (zb 23) 52 = .ok (.getfield 51, 3)), List.forall_mem_cons.mpr ⟨w_iload (by decide +kernel : decode (zb 23) 55 = .ok (.iload 5, 2)), List.forall_mem_cons.mpr ⟨w_lald (by decide +kernel : decode (zb 23) 57 = .ok (.laload, 1)), List.forall_mem_cons.mpr ⟨w_ladd (by decide +kernel : decode (zb 23) 58 = .ok (.ladd, 1)), List.forall_mem_cons.mpr ⟨w_lstore_n (by decide +kernel : decode (zb 23) 59 = .ok (.lstore_n 3, 1)) rfl, List.forall_mem_cons.mpr ⟨w_iinc (by decide +kernel : decode (zb 23) 60 = .ok (.iinc 5 1, 3)) rfl, List.forall_mem_cons.mpr ⟨w_goto (by decide +kernel : decode (zb 23) 63 = .ok (.goto (-58), 3)) rfl, List.forall_mem_cons.mpr ⟨w_lload_n (by decide +kernel : decode (zb 23) 66 = .ok (.lload_n 3, 1)) rfl, List.forall_mem_cons.mpr ⟨w_lr (by decide +kernel : decode (zb 23) 67 = .ok (.lreturn, 1)) rfl, fun _ h => absurd h List.not_mem_nil⟩⟩⟩⟩⟩⟩⟩⟩⟩⟩⟩⟩⟩⟩⟩⟩⟩⟩⟩⟩⟩⟩⟩⟩⟩⟩⟩⟩⟩⟩⟩⟩⟩⟩⟩⟩⟩⟩
theorem zs23 : ∀ q ∈ zc23, zSn 23 q := zs23_0
-- HummingSet$Plan.cheapest(LHummingSet$Wireless;LHummingSet$Cases;I)I
def zc24 : List (Nat × ZIns) := [(0, z_ic (-4) 2), (2, z_is 4 2), (4, z_ic 0 1), (5, z_is 5 2), (7, z_ic 0 1), (8, z_is 6 2), (10, z_il 6 2), (12, z_ic 256 3), (15, z_ige 90), (18, z_al 1 1), (19, z_il 6 2), (21, z_cV 10 48 2 1), (24, z_ifeq 90), (27, z_al 1 1), (28, z_il 6 2), (30, z_cV 10 65 4 1), (33, z_is 7 2), (35, z_il 4 2), (37, z_ic (-4) 2), (39, z_ieq 49), (42, z_il 7 2), (44, z_il 5 2), (46, z_ige 84), (49, z_lc 100 3), (52, z_al 2 1), (53, z_gL 2 3), (56, z_al 0 1), (57, z_al 2 1), (58, z_il 6 2), (60, z_cV 4 23 7 2), (63, z_lsub), (64, z_lmul), (65, z_il 3 1), (66, z_i2l), (67, z_al 2 1), (68, z_gL 2 3), (71, z_lmul), (72, z_lcmp), (73, z_iflt 84), (76, z_il 6 2), (78, z_is 4 2), (80, z_il 7 2), (82, z_is 5 2), (84, z_inc 6 1), (87, z_goto 10), (90, z_il 4 2), (92, z_ir)]
set_option maxRecDepth 100000 in
set_option maxHeartbeats 4000000 in
theorem zs24_0 : ∀ q ∈ ([(0, z_ic (-4) 2), (2, z_is 4 2), (4, z_ic 0 1), (5, z_is 5 2), (7, z_ic 0 1), (8, z_is 6 2), (10, z_il 6 2), (12, z_ic 256 3), (15, z_ige 90), (18, z_al 1 1), (19, z_il 6 2), (21, z_cV 10 48 2 1), (24, z_ifeq 90), (27, z_al 1 1), (28, z_il 6 2), (30, z_cV 10 65 4 1), (33, z_is 7 2), (35, z_il 4 2), (37, z_ic (-4) 2), (39, z_ieq 49), (42, z_il 7 2), (44, z_il 5 2), (46, z_ige 84), (49, z_lc 100 3), (52, z_al 2 1), (53, z_gL 2 3), (56, z_al 0 1), (57, z_al 2 1), (58, z_il 6 2), (60, z_cV 4 23 7 2), (63, z_lsub), (64, z_lmul), (65, z_il 3 1), (66, z_i2l), (67, z_al 2 1), (68, z_gL 2 3), (71, z_lmul), (72, z_lcmp), (73, z_iflt 84), (76, z_il 6 2)] : List (Nat × ZIns)), zSn 24 q := List.forall_mem_cons.mpr ⟨w_bipush (by decide +kernel : decode (zb 24) 0 = .ok (.bipush (-4), 2)) rfl, List.forall_mem_cons.mpr ⟨w_istore (by decide +kernel : decode (zb 24) 2 = .ok (.istore 4, 2)), List.forall_mem_cons.mpr ⟨w_iconst (by decide +kernel : decode (zb 24) 4 = .ok (.iconst 0, 1)) rfl, List.forall_mem_cons.mpr ⟨w_istore (by decide +kernel : decode (zb 24) 5 = .ok (.istore 5, 2)), List.forall_mem_cons.mpr ⟨w_iconst (by decide +kernel : decode (zb 24) 7 = .ok (.iconst 0, 1)) rfl, List.forall_mem_cons.mpr ⟨w_istore (by decide +kernel : decode (zb 24) 8 = .ok (.istore 6, 2)), List.forall_mem_cons.mpr ⟨w_iload (by decide +kernel : decode (zb 24) 10 = .ok (.iload 6, 2)), List.forall_mem_cons.mpr ⟨w_sipush (by decide +kernel : decode (zb 24) 12 = .ok (.sipush 256, 3)) rfl, List.forall_mem_cons.mpr ⟨w_ige (by decide +kernel : decode (zb 24) 15 = .ok (.if_icmp .ge 75, 3)) rfl, List.forall_mem_cons.mpr ⟨w_aload_n (by decide +kernel : decode (zb 24) 18 = .ok (.aload_n 1, 1)) rfl, List.forall_mem_cons.mpr ⟨w_iload (by decide +kernel : decode (zb 24) 19 = .ok (.iload 6, 2)), List.forall_mem_cons.mpr ⟨w_cV zw24 zo10 rfl rfl zin48 zse48 zca48 (by decide +kernel) (by decide +kernel) zmk_HummingSet_Plan_19 (by decide +kernel : decode (zb 24) 21 = .ok (.invokevirtual 19, 3)), List.forall_mem_cons.mpr ⟨w_ifeq (by decide +kernel : decode (zb 24) 24 = .ok (.ifCond .eq 66, 3)) rfl, List.forall_mem_cons.mpr ⟨w_aload_n (by decide +kernel : decode (zb 24) 27 = .ok (.aload_n 1, 1)) rfl, List.forall_mem_cons.mpr ⟨w_iload (by decide +kernel : decode (zb 24) 28 = .ok (.iload 6, 2)), List.forall_mem_cons.mpr ⟨w_cV zw24 zo10 rfl rfl zin65 zse65 zca65 (by decide +kernel) (by decide +kernel) zmk_HummingSet_Plan_54 (by decide +kernel : decode (zb 24) 30 = .ok (.invokevirtual 54, 3)), List.forall_mem_cons.mpr ⟨w_istore (by decide +kernel : decode (zb 24) 33 = .ok (.istore 7, 2)), List.forall_mem_cons.mpr ⟨w_iload (by decide +kernel : decode (zb 24) 35 = .ok (.iload 4, 2)), List.forall_mem_cons.mpr ⟨w_bipush (by decide +kernel : decode (zb 24) 37 = .ok (.bipush (-4), 2)) rfl, List.forall_mem_cons.mpr ⟨w_ieq (by decide +kernel : decode (zb 24) 39 = .ok (.if_icmp .eq 10, 3)) rfl, List.forall_mem_cons.mpr ⟨w_iload (by decide +kernel : decode (zb 24) 42 = .ok (.iload 7, 2)), List.forall_mem_cons.mpr ⟨w_iload (by decide +kernel : decode (zb 24) 44 = .ok (.iload 5, 2)), List.forall_mem_cons.mpr ⟨w_ige (by decide +kernel : decode (zb 24) 46 = .ok (.if_icmp .ge 38, 3)) rfl, List.forall_mem_cons.mpr ⟨w_ldc2 zw24 (zmW (w := Cond.constantLong "HummingSet$Plan" 57 100) 681 (by decide +kernel) rfl) (by decide +kernel : decode (zb 24) 49 = .ok (.ldc2_w 57, 3)), List.forall_mem_cons.mpr ⟨w_aload_n (by decide +kernel : decode (zb 24) 52 = .ok (.aload_n 2, 1)) rfl, List.forall_mem_cons.mpr ⟨w_gL zw24 (j := 3) zo2 (by decide +kernel) zfk_HummingSet_Plan_59 rfl (by decide +kernel : decode (zb 24) 53 = .ok (.getfield 59, 3)), List.forall_mem_cons.mpr ⟨w_aload_n (by decide +kernel : decode (zb 24) 56 = .ok (.aload_n 0, 1)) rfl, List.forall_mem_cons.mpr ⟨w_aload_n (by decide +kernel : decode (zb 24) 57 = .ok (.aload_n 2, 1)) rfl, List.forall_mem_cons.mpr ⟨w_iload (by decide +kernel : decode (zb 24) 58 = .ok (.iload 6, 2)), List.forall_mem_cons.mpr ⟨w_cV zw24 zo4 rfl rfl zin23 zse23 zca23 (by decide +kernel) (by decide +kernel) zmk_HummingSet_Plan_63 (by decide +kernel : decode (zb 24) 60 = .ok (.invokevirtual 63, 3)), List.forall_mem_cons.mpr ⟨w_lsub (by decide +kernel : decode (zb 24) 63 = .ok (.lsub, 1)), List.forall_mem_cons.mpr ⟨w_lmul (by decide +kernel : decode (zb 24) 64 = .ok (.lmul, 1)), List.forall_mem_cons.mpr ⟨w_iload_n (by decide +kernel : decode (zb 24) 65 = .ok (.iload_n 3, 1)) rfl, List.forall_mem_cons.mpr ⟨w_i2l (by decide +kernel : decode (zb 24) 66 = .ok (.i2l, 1)), List.forall_mem_cons.mpr ⟨w_aload_n (by decide +kernel : decode (zb 24) 67 = .ok (.aload_n 2, 1)) rfl, List.forall_mem_cons.mpr ⟨w_gL zw24 (j := 3) zo2 (by decide +kernel) zfk_HummingSet_Plan_59 rfl (by decide +kernel : decode (zb 24) 68 = .ok (.getfield 59, 3)), List.forall_mem_cons.mpr ⟨w_lmul (by decide +kernel : decode (zb 24) 71 = .ok (.lmul, 1)), List.forall_mem_cons.mpr ⟨w_lcmp (by decide +kernel : decode (zb 24) 72 = .ok (.lcmp, 1)), List.forall_mem_cons.mpr ⟨w_iflt (by decide +kernel : decode (zb 24) 73 = .ok (.ifCond .lt 11, 3)) rfl, List.forall_mem_cons.mpr ⟨w_iload (by decide +kernel : decode (zb 24) 76 = .ok (.iload 6, 2)), fun _ h => absurd h List.not_mem_nil⟩⟩⟩⟩⟩⟩⟩⟩⟩⟩⟩⟩⟩⟩⟩⟩⟩⟩⟩⟩⟩⟩⟩⟩⟩⟩⟩⟩⟩⟩⟩⟩⟩⟩⟩⟩⟩⟩⟩⟩
set_option maxRecDepth 100000 in
set_option maxHeartbeats 4000000 in
theorem zs24_1 : ∀ q ∈ ([(78, z_is 4 2), (80, z_il 7 2), (82, z_is 5 2), (84, z_inc 6 1), (87, z_goto 10), (90, z_il 4 2), (92, z_ir)] : List (Nat × ZIns)), zSn 24 q := List.forall_mem_cons.mpr ⟨w_istore (by decide +kernel : decode (zb 24) 78 = .ok (.istore 4, 2)), List.forall_mem_cons.mpr ⟨w_iload (by decide +kernel : decode (zb 24) 80 = .ok (.iload 7, 2)), List.forall_mem_cons.mpr ⟨w_istore (by decide +kernel : decode (zb 24) 82 = .ok (.istore 5, 2)), List.forall_mem_cons.mpr ⟨w_iinc (by decide +kernel : decode (zb 24) 84 = .ok (.iinc 6 1, 3)) rfl, List.forall_mem_cons.mpr ⟨w_goto (by decide +kernel : decode (zb 24) 87 = .ok (.goto (-77), 3)) rfl, List.forall_mem_cons.mpr ⟨w_iload (by decide +kernel : decode (zb 24) 90 = .ok (.iload 4, 2)), List.forall_mem_cons.mpr ⟨w_ir (by decide +kernel : decode (zb 24) 92 = .ok (.ireturn, 1)) rfl, fun _ h => absurd h List.not_mem_nil⟩⟩⟩⟩⟩⟩⟩
theorem zs24 : ∀ q ∈ zc24, zSn 24 q := List.forall_mem_append.mpr ⟨zs24_0, zs24_1⟩
-- HummingSet$Plan.row(LHummingSet$Wireless;LHummingSet$Cases;)V
def zc25 : List (Nat × ZIns) := [(0, z_ic 256 3), (3, z_ic 1 1), (4, z_al 1 1), (5, z_gI 10 6), (8, z_ishl), (9, z_mmin), (12, z_ic 1 1), (13, z_isub), (14, z_is 3 1), (15, z_il 3 1), (16, z_is 4 2), (18, z_il 4 2), (20, z_iflt 68), (23, z_al 0 1), (24, z_al 2 1), (25, z_il 4 2), (27, z_cV 4 23 7 2), (30, z_ls 5 2), (32, z_al 0 1), (33, z_gR 4 1), (36, z_il 4 2), (38, z_lc 0 1), (39, z_last), (40, z_al 0 1), (41, z_ic (-4) 2), (43, z_pI 4 2), (46, z_ll 5 2), (48, z_lc 0 1), (49, z_lcmp), (50, z_ifeq 62), (53, z_al 0 1), (54, z_al 1 1), (55, z_il 4 2), (57, z_ll 5 2), (59, z_cV 4 26 9 3), (62, z_inc 4 (-1)), (65, z_goto 18), (68, z_vr)]
set_option maxRecDepth 100000 in
set_option maxHeartbeats 4000000 in
theorem zs25_0 : ∀ q ∈ ([(0, z_ic 256 3), (3, z_ic 1 1), (4, z_al 1 1), (5, z_gI 10 6), (8, z_ishl), (9, z_mmin), (12, z_ic 1 1), (13, z_isub), (14, z_is 3 1), (15, z_il 3 1), (16, z_is 4 2), (18, z_il 4 2), (20, z_iflt 68), (23, z_al 0 1), (24, z_al 2 1), (25, z_il 4 2), (27, z_cV 4 23 7 2), (30, z_ls 5 2), (32, z_al 0 1), (33, z_gR 4 1), (36, z_il 4 2), (38, z_lc 0 1), (39, z_last), (40, z_al 0 1), (41, z_ic (-4) 2), (43, z_pI 4 2), (46, z_ll 5 2), (48, z_lc 0 1), (49, z_lcmp), (50, z_ifeq 62), (53, z_al 0 1), (54, z_al 1 1), (55, z_il 4 2), (57, z_ll 5 2), (59, z_cV 4 26 9 3), (62, z_inc 4 (-1)), (65, z_goto 18), (68, z_vr)] : List (Nat × ZIns)), zSn 25 q := List.forall_mem_cons.mpr ⟨w_sipush (by decide +kernel : decode (zb 25) 0 = .ok (.sipush 256, 3)) rfl, List.forall_mem_cons.mpr ⟨w_iconst (by decide +kernel : decode (zb 25) 3 = .ok (.iconst 1, 1)) rfl, List.forall_mem_cons.mpr ⟨w_aload_n (by decide +kernel : decode (zb 25) 4 = .ok (.aload_n 1, 1)) rfl, List.forall_mem_cons.mpr ⟨w_gI zw25 (j := 6) zo10 (by decide +kernel) zfk_HummingSet_Plan_67 rfl (by decide +kernel : decode (zb 25) 5 = .ok (.getfield 67, 3)), List.forall_mem_cons.mpr ⟨w_ishl (by decide +kernel : decode (zb 25) 8 = .ok (.ishl, 1)), List.forall_mem_cons.mpr ⟨w_mmin zw25 zmaL_mmin_HummingSet_Plan_70 zmaS_mmin zmaI zmaC_mmin (by decide +kernel) (by decide +kernel : decode (zb 25) 9 = .ok (.invokestatic 70, 3)), List.forall_mem_cons.mpr ⟨w_iconst (by decide +kernel : decode (zb 25) 12 = .ok (.iconst 1, 1)) rfl, List.forall_mem_cons.mpr ⟨w_isub (by decide +kernel : decode (zb 25) 13 = .ok (.isub, 1)), List.forall_mem_cons.mpr ⟨w_istore_n (by decide +kernel : decode (zb 25) 14 = .ok (.istore_n 3, 1)) rfl, List.forall_mem_cons.mpr ⟨w_iload_n (by decide +kernel : decode (zb 25) 15 = .ok (.iload_n 3, 1)) rfl, List.forall_mem_cons.mpr ⟨w_istore (by decide +kernel : decode (zb 25) 16 = .ok (.istore 4, 2)), List.forall_mem_cons.mpr ⟨w_iload (by decide +kernel : decode (zb 25) 18 = .ok (.iload 4, 2)), List.forall_mem_cons.mpr ⟨w_iflt (by decide +kernel : decode (zb 25) 20 = .ok (.ifCond .lt 48, 3)) rfl, List.forall_mem_cons.mpr ⟨w_aload_n (by decide +kernel : decode (zb 25) 23 = .ok (.aload_n 0, 1)) rfl, List.forall_mem_cons.mpr ⟨w_aload_n (by decide +kernel : decode (zb 25) 24 = .ok (.aload_n 2, 1)) rfl, List.forall_mem_cons.mpr ⟨w_iload (by decide +kernel : decode (zb 25) 25 = .ok (.iload 4, 2)), List.forall_mem_cons.mpr ⟨w_cV zw25 zo4 rfl rfl zin23 zse23 zca23 (by decide +kernel) (by decide +kernel) zmk_HummingSet_Plan_63 (by decide +kernel : decode (zb 25) 27 = .ok (.invokevirtual 63, 3)), List.forall_mem_cons.mpr ⟨w_lstore (by decide +kernel : decode (zb 25) 30 = .ok (.lstore 5, 2)), List.forall_mem_cons.mpr ⟨w_aload_n (by decide +kernel : decode (zb 25) 32 = .ok (.aload_n 0, 1)) rfl, List.forall_mem_cons.mpr ⟨w_gR zw25 (j := 1) zo4 (by decide +kernel) zfk_HummingSet_Plan_15 rfl (by decide +kernel : decode (zb 25) 33 = .ok (.getfield 15, 3)), List.forall_mem_cons.mpr ⟨w_iload (by decide +kernel : decode (zb 25) 36 = .ok (.iload 4, 2)), List.forall_mem_cons.mpr ⟨w_lconst (by decide +kernel : decode (zb 25) 38 = .ok (.lconst 0, 1)) rfl, List.forall_mem_cons.mpr ⟨w_last (by decide +kernel : decode (zb 25) 39 = .ok (.lastore, 1)), List.forall_mem_cons.mpr ⟨w_aload_n (by decide +kernel : decode (zb 25) 40 = .ok (.aload_n 0, 1)) rfl, List.forall_mem_cons.mpr ⟨w_bipush (by decide +kernel : decode (zb 25) 41 = .ok (.bipush (-4), 2)) rfl, List.forall_mem_cons.mpr ⟨w_pI zw25 (j := 2) zo4 (by decide +kernel) zfk_HummingSet_Plan_76 rfl rfl rfl (by decide +kernel : decode (zb 25) 43 = .ok (.putfield 76, 3)), List.forall_mem_cons.mpr ⟨w_lload (by decide +kernel : decode (zb 25) 46 = .ok (.lload 5, 2)), List.forall_mem_cons.mpr ⟨w_lconst (by decide +kernel : decode (zb 25) 48 = .ok (.lconst 0, 1)) rfl, List.forall_mem_cons.mpr ⟨w_lcmp (by decide +kernel : decode (zb 25) 49 = .ok (.lcmp, 1)), List.forall_mem_cons.mpr ⟨w_ifeq (by decide +kernel : decode (zb 25) 50 = .ok (.ifCond .eq 12, 3)) rfl, List.forall_mem_cons.mpr ⟨w_aload_n (by decide +kernel : decode (zb 25) 53 = .ok (.aload_n 0, 1)) rfl, List.forall_mem_cons.mpr ⟨w_aload_n (by decide +kernel : decode (zb 25) 54 = .ok (.aload_n 1, 1)) rfl, List.forall_mem_cons.mpr ⟨w_iload (by decide +kernel : decode (zb 25) 55 = .ok (.iload 4, 2)), List.forall_mem_cons.mpr ⟨w_lload (by decide +kernel : decode (zb 25) 57 = .ok (.lload 5, 2)), List.forall_mem_cons.mpr ⟨w_cV zw25 zo4 rfl rfl zin26 zse26 zca26 (by decide +kernel) (by decide +kernel) zmk_HummingSet_Plan_79 (by decide +kernel : decode (zb 25) 59 = .ok (.invokevirtual 79, 3)), List.forall_mem_cons.mpr ⟨w_iinc (by decide +kernel : decode (zb 25) 62 = .ok (.iinc 4 (-1), 3)) rfl, List.forall_mem_cons.mpr ⟨w_goto (by decide +kernel : decode (zb 25) 65 = .ok (.goto (-47), 3)) rfl, List.forall_mem_cons.mpr ⟨w_vr (by decide +kernel : decode (zb 25) 68 = .ok (.return_, 1)) rfl, fun _ h => absurd h List.not_mem_nil⟩⟩⟩⟩⟩⟩⟩⟩⟩⟩⟩⟩⟩⟩⟩⟩⟩⟩⟩⟩⟩⟩⟩⟩⟩⟩⟩⟩⟩⟩⟩⟩⟩⟩⟩⟩⟩⟩
theorem zs25 : ∀ q ∈ zc25, zSn 25 q := zs25_0
-- HummingSet$Plan.goOn(LHummingSet$Wireless;IJ)V
def zc26 : List (Nat × ZIns) := [(0, z_ic 0 1), (1, z_is 5 2), (3, z_il 5 2), (5, z_al 1 1), (6, z_gI 10 6), (9, z_ige 98), (12, z_il 2 1), (13, z_ic 1 1), (14, z_il 5 2), (16, z_ishl), (17, z_ior), (18, z_is 6 2), (20, z_il 6 2), (22, z_il 2 1), (23, z_ieq 92), (26, z_il 6 2), (28, z_ic 256 3), (31, z_ige 92), (34, z_al 1 1), (35, z_gR 10 1), (38, z_il 5 2), (40, z_aald 25), (41, z_gI 3 6), (44, z_i2l), (45, z_ll 3 1), (46, z_lmul), (47, z_al 0 1), (48, z_gR 4 1), (51, z_il 6 2), (53, z_lald), (54, z_ladd), (55, z_ls 7 2), (57, z_al 0 1), (58, z_gI 4 2), (61, z_ic (-4) 2), (63, z_ieq 78), (66, z_ll 7 2), (68, z_al 0 1), (69, z_gR 4 1), (72, z_il 2 1), (73, z_lald), (74, z_lcmp), (75, z_ifge 92), (78, z_al 0 1), (79, z_gR 4 1), (82, z_il 2 1), (83, z_ll 7 2), (85, z_last), (86, z_al 0 1), (87, z_il 5 2), (89, z_pI 4 2), (92, z_inc 5 1), (95, z_goto 3), (98, z_vr)]
set_option maxRecDepth 100000 in
set_option maxHeartbeats 4000000 in
theorem zs26_0 : ∀ q ∈ ([(0, z_ic 0 1), (1, z_is 5 2), (3, z_il 5 2), (5, z_al 1 1), (6, z_gI 10 6), (9, z_ige 98), (12, z_il 2 1), (13, z_ic 1 1), (14, z_il 5 2), (16, z_ishl), (17, z_ior), (18, z_is 6 2), (20, z_il 6 2), (22, z_il 2 1), (23, z_ieq 92), (26, z_il 6 2), (28, z_ic 256 3), (31, z_ige 92), (34, z_al 1 1), (35, z_gR 10 1), (38, z_il 5 2), (40, z_aald 25), (41, z_gI 3 6), (44, z_i2l), (45, z_ll 3 1), (46, z_lmul), (47, z_al 0 1), (48, z_gR 4 1), (51, z_il 6 2), (53, z_lald), (54, z_ladd), (55, z_ls 7 2), (57, z_al 0 1), (58, z_gI 4 2), (61, z_ic (-4) 2), (63, z_ieq 78), (66, z_ll 7 2), (68, z_al 0 1), (69, z_gR 4 1), (72, z_il 2 1)] : List (Nat × ZIns)), zSn 26 q := List.forall_mem_cons.mpr ⟨w_iconst (by decide +kernel : decode (zb 26) 0 = .ok (.iconst 0, 1)) rfl, List.forall_mem_cons.mpr ⟨w_istore (by decide +kernel : decode (zb 26) 1 = .ok (.istore 5, 2)), List.forall_mem_cons.mpr ⟨w_iload (by decide +kernel : decode (zb 26) 3 = .ok (.iload 5, 2)), List.forall_mem_cons.mpr ⟨w_aload_n (by decide +kernel : decode (zb 26) 5 = .ok (.aload_n 1, 1)) rfl, List.forall_mem_cons.mpr ⟨w_gI zw26 (j := 6) zo10 (by decide +kernel) zfk_HummingSet_Plan_67 rfl (by decide +kernel : decode (zb 26) 6 = .ok (.getfield 67, 3)), List.forall_mem_cons.mpr ⟨w_ige (by decide +kernel : decode (zb 26) 9 = .ok (.if_icmp .ge 89, 3)) rfl, List.forall_mem_cons.mpr ⟨w_iload_n (by decide +kernel : decode (zb 26) 12 = .ok (.iload_n 2, 1)) rfl, List.forall_mem_cons.mpr ⟨w_iconst (by decide +kernel : decode (zb 26) 13 = .ok (.iconst 1, 1)) rfl, List.forall_mem_cons.mpr ⟨w_iload (by decide +kernel : decode (zb 26) 14 = .ok (.iload 5, 2)), List.forall_mem_cons.mpr ⟨w_ishl (by decide +kernel : decode (zb 26) 16 = .ok (.ishl, 1)), List.forall_mem_cons.mpr ⟨w_ior (by decide +kernel : decode (zb 26) 17 = .ok (.ior, 1)), List.forall_mem_cons.mpr ⟨w_istore (by decide +kernel : decode (zb 26) 18 = .ok (.istore 6, 2)), List.forall_mem_cons.mpr ⟨w_iload (by decide +kernel : decode (zb 26) 20 = .ok (.iload 6, 2)), List.forall_mem_cons.mpr ⟨w_iload_n (by decide +kernel : decode (zb 26) 22 = .ok (.iload_n 2, 1)) rfl, List.forall_mem_cons.mpr ⟨w_ieq (by decide +kernel : decode (zb 26) 23 = .ok (.if_icmp .eq 69, 3)) rfl, List.forall_mem_cons.mpr ⟨w_iload (by decide +kernel : decode (zb 26) 26 = .ok (.iload 6, 2)), List.forall_mem_cons.mpr ⟨w_sipush (by decide +kernel : decode (zb 26) 28 = .ok (.sipush 256, 3)) rfl, List.forall_mem_cons.mpr ⟨w_ige (by decide +kernel : decode (zb 26) 31 = .ok (.if_icmp .ge 61, 3)) rfl, List.forall_mem_cons.mpr ⟨w_aload_n (by decide +kernel : decode (zb 26) 34 = .ok (.aload_n 1, 1)) rfl, List.forall_mem_cons.mpr ⟨w_gR zw26 (j := 1) zo10 (by decide +kernel) zfk_HummingSet_Plan_83 rfl (by decide +kernel : decode (zb 26) 35 = .ok (.getfield 83, 3)), List.forall_mem_cons.mpr ⟨w_iload (by decide +kernel : decode (zb 26) 38 = .ok (.iload 5, 2)), List.forall_mem_cons.mpr ⟨w_aald25 (by decide +kernel : decode (zb 26) 40 = .ok (.aaload, 1)), List.forall_mem_cons.mpr ⟨w_gI zw26 (j := 6) zo3 (by decide +kernel) zfk_HummingSet_Plan_87 rfl (by decide +kernel : decode (zb 26) 41 = .ok (.getfield 87, 3)), List.forall_mem_cons.mpr ⟨w_i2l (by decide +kernel : decode (zb 26) 44 = .ok (.i2l, 1)), List.forall_mem_cons.mpr ⟨w_lload_n (by decide +kernel : decode (zb 26) 45 = .ok (.lload_n 3, 1)) rfl, List.forall_mem_cons.mpr ⟨w_lmul (by decide +kernel : decode (zb 26) 46 = .ok (.lmul, 1)), List.forall_mem_cons.mpr ⟨w_aload_n (by decide +kernel : decode (zb 26) 47 = .ok (.aload_n 0, 1)) rfl, List.forall_mem_cons.mpr ⟨w_gR zw26 (j := 1) zo4 (by decide +kernel) zfk_HummingSet_Plan_15 rfl (by decide +kernel : decode (zb 26) 48 = .ok (.getfield 15, 3)), List.forall_mem_cons.mpr ⟨w_iload (by decide +kernel : decode (zb 26) 51 = .ok (.iload 6, 2)), List.forall_mem_cons.mpr ⟨w_lald (by decide +kernel : decode (zb 26) 53 = .ok (.laload, 1)), List.forall_mem_cons.mpr ⟨w_ladd (by decide +kernel : decode (zb 26) 54 = .ok (.ladd, 1)), List.forall_mem_cons.mpr ⟨w_lstore (by decide +kernel : decode (zb 26) 55 = .ok (.lstore 7, 2)), List.forall_mem_cons.mpr ⟨w_aload_n (by decide +kernel : decode (zb 26) 57 = .ok (.aload_n 0, 1)) rfl, List.forall_mem_cons.mpr ⟨w_gI zw26 (j := 2) zo4 (by decide +kernel) zfk_HummingSet_Plan_76 rfl (by decide +kernel : decode (zb 26) 58 = .ok (.getfield 76, 3)), List.forall_mem_cons.mpr ⟨w_bipush (by decide +kernel : decode (zb 26) 61 = .ok (.bipush (-4), 2)) rfl, List.forall_mem_cons.mpr ⟨w_ieq (by decide +kernel : decode (zb 26) 63 = .ok (.if_icmp .eq 15, 3)) rfl, List.forall_mem_cons.mpr ⟨w_lload (by decide +kernel : decode (zb 26) 66 = .ok (.lload 7, 2)), List.forall_mem_cons.mpr ⟨w_aload_n (by decide +kernel : decode (zb 26) 68 = .ok (.aload_n 0, 1)) rfl, List.forall_mem_cons.mpr ⟨w_gR zw26 (j := 1) zo4 (by decide +kernel) zfk_HummingSet_Plan_15 rfl (by decide +kernel : decode (zb 26) 69 = .ok (.getfield 15, 3)), List.forall_mem_cons.mpr ⟨w_iload_n (by decide +kernel : decode (zb 26) 72 = .ok (.iload_n 2, 1)) rfl, fun _ h => absurd h List.not_mem_nil⟩⟩⟩⟩⟩⟩⟩⟩⟩⟩⟩⟩⟩⟩⟩⟩⟩⟩⟩⟩⟩⟩⟩⟩⟩⟩⟩⟩⟩⟩⟩⟩⟩⟩⟩⟩⟩⟩⟩⟩
set_option maxRecDepth 100000 in
set_option maxHeartbeats 4000000 in
theorem zs26_1 : ∀ q ∈ ([(73, z_lald), (74, z_lcmp), (75, z_ifge 92), (78, z_al 0 1), (79, z_gR 4 1), (82, z_il 2 1), (83, z_ll 7 2), (85, z_last), (86, z_al 0 1), (87, z_il 5 2), (89, z_pI 4 2), (92, z_inc 5 1), (95, z_goto 3), (98, z_vr)] : List (Nat × ZIns)), zSn 26 q := List.forall_mem_cons.mpr ⟨w_lald (by decide +kernel : decode (zb 26) 73 = .ok (.laload, 1)), List.forall_mem_cons.mpr ⟨w_lcmp (by decide +kernel : decode (zb 26) 74 = .ok (.lcmp, 1)), List.forall_mem_cons.mpr ⟨w_ifge (by decide +kernel : decode (zb 26) 75 = .ok (.ifCond .ge 17, 3)) rfl, List.forall_mem_cons.mpr ⟨w_aload_n (by decide +kernel : decode (zb 26) 78 = .ok (.aload_n 0, 1)) rfl, List.forall_mem_cons.mpr ⟨w_gR zw26 (j := 1) zo4 (by decide +kernel) zfk_HummingSet_Plan_15 rfl (by decide +kernel : decode (zb 26) 79 = .ok (.getfield 15, 3)), List.forall_mem_cons.mpr ⟨w_iload_n (by decide +kernel : decode (zb 26) 82 = .ok (.iload_n 2, 1)) rfl, List.forall_mem_cons.mpr ⟨w_lload (by decide +kernel : decode (zb 26) 83 = .ok (.lload 7, 2)), List.forall_mem_cons.mpr ⟨w_last (by decide +kernel : decode (zb 26) 85 = .ok (.lastore, 1)), List.forall_mem_cons.mpr ⟨w_aload_n (by decide +kernel : decode (zb 26) 86 = .ok (.aload_n 0, 1)) rfl, List.forall_mem_cons.mpr ⟨w_iload (by decide +kernel : decode (zb 26) 87 = .ok (.iload 5, 2)), List.forall_mem_cons.mpr ⟨w_pI zw26 (j := 2) zo4 (by decide +kernel) zfk_HummingSet_Plan_76 rfl rfl rfl (by decide +kernel : decode (zb 26) 89 = .ok (.putfield 76, 3)), List.forall_mem_cons.mpr ⟨w_iinc (by decide +kernel : decode (zb 26) 92 = .ok (.iinc 5 1, 3)) rfl, List.forall_mem_cons.mpr ⟨w_goto (by decide +kernel : decode (zb 26) 95 = .ok (.goto (-92), 3)) rfl, List.forall_mem_cons.mpr ⟨w_vr (by decide +kernel : decode (zb 26) 98 = .ok (.return_, 1)) rfl, fun _ h => absurd h List.not_mem_nil⟩⟩⟩⟩⟩⟩⟩⟩⟩⟩⟩⟩⟩⟩
theorem zs26 : ∀ q ∈ zc26, zSn 26 q := List.forall_mem_append.mpr ⟨zs26_0, zs26_1⟩
-- HummingSet$Reader.<init>()V
def zc27 : List (Nat × ZIns) := []
theorem zs27 : ∀ q ∈ zc27, zSn 27 q := fun _ h => absurd h List.not_mem_nil
-- HummingSet$Reader.read(LHummingSet$Text;LHummingSet$Wireless;)I
def zc28 : List (Nat × ZIns) := [(0, z_al 2 1), (1, z_cV 10 45 2 0), (4, z_al 0 1), (5, z_ic 0 1), (6, z_pI 5 1), (9, z_ic 0 1), (10, z_is 3 1), (11, z_il 3 1), (12, z_ic 400 3), (15, z_ige 53), (18, z_al 0 1), (19, z_gI 5 1), (22, z_al 1 1), (23, z_gI 8 1), (26, z_ige 53), (29, z_al 0 1), (30, z_gI 5 1), (33, z_is 4 2), (35, z_al 0 1), (36, z_al 1 1), (37, z_al 2 1), (38, z_cV 5 29 6 2), (41, z_ifne 47), (44, z_il 4 2), (46, z_ir), (47, z_inc 3 1), (50, z_goto 11), (53, z_ic (-4) 2), (55, z_ir)]
set_option maxRecDepth 100000 in
set_option maxHeartbeats 4000000 in
theorem zs28_0 : ∀ q ∈ ([(0, z_al 2 1), (1, z_cV 10 45 2 0), (4, z_al 0 1), (5, z_ic 0 1), (6, z_pI 5 1), (9, z_ic 0 1), (10, z_is 3 1), (11, z_il 3 1), (12, z_ic 400 3), (15, z_ige 53), (18, z_al 0 1), (19, z_gI 5 1), (22, z_al 1 1), (23, z_gI 8 1), (26, z_ige 53), (29, z_al 0 1), (30, z_gI 5 1), (33, z_is 4 2), (35, z_al 0 1), (36, z_al 1 1), (37, z_al 2 1), (38, z_cV 5 29 6 2), (41, z_ifne 47), (44, z_il 4 2), (46, z_ir), (47, z_inc 3 1), (50, z_goto 11), (53, z_ic (-4) 2), (55, z_ir)] : List (Nat × ZIns)), zSn 28 q := List.forall_mem_cons.mpr ⟨w_aload_n (by decide +kernel : decode (zb 28) 0 = .ok (.aload_n 2, 1)) rfl, List.forall_mem_cons.mpr ⟨w_cV zw28 zo10 rfl rfl zin45 zse45 zca45 (by decide +kernel) (by decide +kernel) zmk_HummingSet_Reader_15 (by decide +kernel : decode (zb 28) 1 = .ok (.invokevirtual 15, 3)), List.forall_mem_cons.mpr ⟨w_aload_n (by decide +kernel : decode (zb 28) 4 = .ok (.aload_n 0, 1)) rfl, List.forall_mem_cons.mpr ⟨w_iconst (by decide +kernel : decode (zb 28) 5 = .ok (.iconst 0, 1)) rfl, List.forall_mem_cons.mpr ⟨w_pI zw28 (j := 1) zo5 (by decide +kernel) zfk_HummingSet_Reader_20 rfl rfl rfl (by decide +kernel : decode (zb 28) 6 = .ok (.putfield 20, 3)), List.forall_mem_cons.mpr ⟨w_iconst (by decide +kernel : decode (zb 28) 9 = .ok (.iconst 0, 1)) rfl, List.forall_mem_cons.mpr ⟨w_istore_n (by decide +kernel : decode (zb 28) 10 = .ok (.istore_n 3, 1)) rfl, List.forall_mem_cons.mpr ⟨w_iload_n (by decide +kernel : decode (zb 28) 11 = .ok (.iload_n 3, 1)) rfl, List.forall_mem_cons.mpr ⟨w_sipush (by decide +kernel : decode (zb 28) 12 = .ok (.sipush 400, 3)) rfl, List.forall_mem_cons.mpr ⟨w_ige (by decide +kernel : decode (zb 28) 15 = .ok (.if_icmp .ge 38, 3)) rfl, List.forall_mem_cons.mpr ⟨w_aload_n (by decide +kernel : decode (zb 28) 18 = .ok (.aload_n 0, 1)) rfl, List.forall_mem_cons.mpr ⟨w_gI zw28 (j := 1) zo5 (by decide +kernel) zfk_HummingSet_Reader_20 rfl (by decide +kernel : decode (zb 28) 19 = .ok (.getfield 20, 3)), List.forall_mem_cons.mpr ⟨w_aload_n (by decide +kernel : decode (zb 28) 22 = .ok (.aload_n 1, 1)) rfl, List.forall_mem_cons.mpr ⟨w_gI zw28 (j := 1) zo8 (by decide +kernel) zfk_HummingSet_Reader_24 rfl (by decide +kernel : decode (zb 28) 23 = .ok (.getfield 24, 3)), List.forall_mem_cons.mpr ⟨w_ige (by decide +kernel : decode (zb 28) 26 = .ok (.if_icmp .ge 27, 3)) rfl, List.forall_mem_cons.mpr ⟨w_aload_n (by decide +kernel : decode (zb 28) 29 = .ok (.aload_n 0, 1)) rfl, List.forall_mem_cons.mpr ⟨w_gI zw28 (j := 1) zo5 (by decide +kernel) zfk_HummingSet_Reader_20 rfl (by decide +kernel : decode (zb 28) 30 = .ok (.getfield 20, 3)), List.forall_mem_cons.mpr ⟨w_istore (by decide +kernel : decode (zb 28) 33 = .ok (.istore 4, 2)), List.forall_mem_cons.mpr ⟨w_aload_n (by decide +kernel : decode (zb 28) 35 = .ok (.aload_n 0, 1)) rfl, List.forall_mem_cons.mpr ⟨w_aload_n (by decide +kernel : decode (zb 28) 36 = .ok (.aload_n 1, 1)) rfl, List.forall_mem_cons.mpr ⟨w_aload_n (by decide +kernel : decode (zb 28) 37 = .ok (.aload_n 2, 1)) rfl, List.forall_mem_cons.mpr ⟨w_cV zw28 zo5 rfl rfl zin29 zse29 zca29 (by decide +kernel) (by decide +kernel) zmk_HummingSet_Reader_29 (by decide +kernel : decode (zb 28) 38 = .ok (.invokevirtual 29, 3)), List.forall_mem_cons.mpr ⟨w_ifne (by decide +kernel : decode (zb 28) 41 = .ok (.ifCond .ne 6, 3)) rfl, List.forall_mem_cons.mpr ⟨w_iload (by decide +kernel : decode (zb 28) 44 = .ok (.iload 4, 2)), List.forall_mem_cons.mpr ⟨w_ir (by decide +kernel : decode (zb 28) 46 = .ok (.ireturn, 1)) rfl, List.forall_mem_cons.mpr ⟨w_iinc (by decide +kernel : decode (zb 28) 47 = .ok (.iinc 3 1, 3)) rfl, List.forall_mem_cons.mpr ⟨w_goto (by decide +kernel : decode (zb 28) 50 = .ok (.goto (-39), 3)) rfl, List.forall_mem_cons.mpr ⟨w_bipush (by decide +kernel : decode (zb 28) 53 = .ok (.bipush (-4), 2)) rfl, List.forall_mem_cons.mpr ⟨w_ir (by decide +kernel : decode (zb 28) 55 = .ok (.ireturn, 1)) rfl, fun _ h => absurd h List.not_mem_nil⟩⟩⟩⟩⟩⟩⟩⟩⟩⟩⟩⟩⟩⟩⟩⟩⟩⟩⟩⟩⟩⟩⟩⟩⟩⟩⟩⟩⟩
theorem zs28 : ∀ q ∈ zc28, zSn 28 q := zs28_0
-- HummingSet$Reader.readItem(LHummingSet$Text;LHummingSet$Wireless;)Z
def zc29 : List (Nat × ZIns) := [(0, z_al 1 1), (1, z_al 0 1), (2, z_gI 5 1), (5, z_cV 8 42 2 1), (8, z_is 3 1), (9, z_il 3 1), (10, z_cS 30 1 1), (13, z_is 4 2), (15, z_il 4 2), (17, z_ifne 22), (20, z_ic 0 1), (21, z_zr), (22, z_al 0 1), (23, z_dup), (24, z_gI 5 1), (27, z_ic 1 1), (28, z_iadd), (29, z_pI 5 1), (32, z_ic 0 1), (33, z_is 5 2), (35, z_il 5 2), (37, z_il 4 2), (39, z_ige 97), (42, z_al 0 1), (43, z_al 1 1), (44, z_il 5 2), (46, z_cV 5 31 6 2), (49, z_ifeq 79), (52, z_al 1 1), (53, z_al 0 1), (54, z_gI 5 1), (57, z_cV 8 42 2 1), (60, z_il 5 2), (62, z_ic 1 1), (63, z_iadd), (64, z_il 4 2), (66, z_ige 74), (69, z_ic 44 2), (71, z_goto 76), (74, z_ic 59 2), (76, z_ieq 81), (79, z_ic 0 1), (80, z_zr), (81, z_al 0 1), (82, z_dup), (83, z_gI 5 1), (86, z_ic 1 1), (87, z_iadd), (88, z_pI 5 1), (91, z_inc 5 1), (94, z_goto 35), (97, z_al 0 1), (98, z_il 3 1), (99, z_al 2 1), (100, z_cV 5 32 6 2), (103, z_zr)]
set_option maxRecDepth 100000 in
set_option maxHeartbeats 4000000 in
theorem zs29_0 : ∀ q ∈ ([(0, z_al 1 1), (1, z_al 0 1), (2, z_gI 5 1), (5, z_cV 8 42 2 1), (8, z_is 3 1), (9, z_il 3 1), (10, z_cS 30 1 1), (13, z_is 4 2), (15, z_il 4 2), (17, z_ifne 22), (20, z_ic 0 1), (21, z_zr), (22, z_al 0 1), (23, z_dup), (24, z_gI 5 1), (27, z_ic 1 1), (28, z_iadd), (29, z_pI 5 1), (32, z_ic 0 1), (33, z_is 5 2), (35, z_il 5 2), (37, z_il 4 2), (39, z_ige 97), (42, z_al 0 1), (43, z_al 1 1), (44, z_il 5 2), (46, z_cV 5 31 6 2), (49, z_ifeq 79), (52, z_al 1 1), (53, z_al 0 1), (54, z_gI 5 1), (57, z_cV 8 42 2 1), (60, z_il 5 2), (62, z_ic 1 1), (63, z_iadd), (64, z_il 4 2), (66, z_ige 74), (69, z_ic 44 2), (71, z_goto 76), (74, z_ic 59 2)] : List (Nat × ZIns)), zSn 29 q := List.forall_mem_cons.mpr ⟨w_aload_n (by decide +kernel : decode (zb 29) 0 = .ok (.aload_n 1, 1)) rfl, List.forall_mem_cons.mpr ⟨w_aload_n (by decide +kernel : decode (zb 29) 1 = .ok (.aload_n 0, 1)) rfl, List.forall_mem_cons.mpr ⟨w_gI zw29 (j := 1) zo5 (by decide +kernel) zfk_HummingSet_Reader_20 rfl (by decide +kernel : decode (zb 29) 2 = .ok (.getfield 20, 3)), List.forall_mem_cons.mpr ⟨w_cV zw29 zo8 rfl rfl zin42 zse42 zca42 (by decide +kernel) (by decide +kernel) zmk_HummingSet_Reader_33 (by decide +kernel : decode (zb 29) 5 = .ok (.invokevirtual 33, 3)), List.forall_mem_cons.mpr ⟨w_istore_n (by decide +kernel : decode (zb 29) 8 = .ok (.istore_n 3, 1)) rfl, List.forall_mem_cons.mpr ⟨w_iload_n (by decide +kernel : decode (zb 29) 9 = .ok (.iload_n 3, 1)) rfl, List.forall_mem_cons.mpr ⟨w_cS zw29 rfl zst30 zca30 (by decide +kernel) (by decide +kernel) zmk_HummingSet_Reader_37 (by decide +kernel : decode (zb 29) 10 = .ok (.invokestatic 37, 3)), List.forall_mem_cons.mpr ⟨w_istore (by decide +kernel : decode (zb 29) 13 = .ok (.istore 4, 2)), List.forall_mem_cons.mpr ⟨w_iload (by decide +kernel : decode (zb 29) 15 = .ok (.iload 4, 2)), List.forall_mem_cons.mpr ⟨w_ifne (by decide +kernel : decode (zb 29) 17 = .ok (.ifCond .ne 5, 3)) rfl, List.forall_mem_cons.mpr ⟨w_iconst (by decide +kernel : decode (zb 29) 20 = .ok (.iconst 0, 1)) rfl, List.forall_mem_cons.mpr ⟨w_zr (by decide +kernel : decode (zb 29) 21 = .ok (.ireturn, 1)) rfl, List.forall_mem_cons.mpr ⟨w_aload_n (by decide +kernel : decode (zb 29) 22 = .ok (.aload_n 0, 1)) rfl, List.forall_mem_cons.mpr ⟨w_dup (by decide +kernel : decode (zb 29) 23 = .ok (.dup, 1)), List.forall_mem_cons.mpr ⟨w_gI zw29 (j := 1) zo5 (by decide +kernel) zfk_HummingSet_Reader_20 rfl (by decide +kernel : decode (zb 29) 24 = .ok (.getfield 20, 3)), List.forall_mem_cons.mpr ⟨w_iconst (by decide +kernel : decode (zb 29) 27 = .ok (.iconst 1, 1)) rfl, List.forall_mem_cons.mpr ⟨w_iadd (by decide +kernel : decode (zb 29) 28 = .ok (.iadd, 1)), List.forall_mem_cons.mpr ⟨w_pI zw29 (j := 1) zo5 (by decide +kernel) zfk_HummingSet_Reader_20 rfl rfl rfl (by decide +kernel : decode (zb 29) 29 = .ok (.putfield 20, 3)), List.forall_mem_cons.mpr ⟨w_iconst (by decide +kernel : decode (zb 29) 32 = .ok (.iconst 0, 1)) rfl, List.forall_mem_cons.mpr ⟨w_istore (by decide +kernel : decode (zb 29) 33 = .ok (.istore 5, 2)), List.forall_mem_cons.mpr ⟨w_iload (by decide +kernel : decode (zb 29) 35 = .ok (.iload 5, 2)), List.forall_mem_cons.mpr ⟨w_iload (by decide +kernel : decode (zb 29) 37 = .ok (.iload 4, 2)), List.forall_mem_cons.mpr ⟨w_ige (by decide +kernel : decode (zb 29) 39 = .ok (.if_icmp .ge 58, 3)) rfl, List.forall_mem_cons.mpr ⟨w_aload_n (by decide +kernel : decode (zb 29) 42 = .ok (.aload_n 0, 1)) rfl, List.forall_mem_cons.mpr ⟨w_aload_n (by decide +kernel : decode (zb 29) 43 = .ok (.aload_n 1, 1)) rfl, List.forall_mem_cons.mpr ⟨w_iload (by decide +kernel : decode (zb 29) 44 = .ok (.iload 5, 2)), List.forall_mem_cons.mpr ⟨w_cV zw29 zo5 rfl rfl zin31 zse31 zca31 (by decide +kernel) (by decide +kernel) zmk_HummingSet_Reader_40 (by decide +kernel : decode (zb 29) 46 = .ok (.invokevirtual 40, 3)), List.forall_mem_cons.mpr ⟨w_ifeq (by decide +kernel : decode (zb 29) 49 = .ok (.ifCond .eq 30, 3)) rfl, List.forall_mem_cons.mpr ⟨w_aload_n (by decide +kernel : decode (zb 29) 52 = .ok (.aload_n 1, 1)) rfl, List.forall_mem_cons.mpr ⟨w_aload_n (by decide +kernel : decode (zb 29) 53 = .ok (.aload_n 0, 1)) rfl, List.forall_mem_cons.mpr ⟨w_gI zw29 (j := 1) zo5 (by decide +kernel) zfk_HummingSet_Reader_20 rfl (by decide +kernel : decode (zb 29) 54 = .ok (.getfield 20, 3)), List.forall_mem_cons.mpr ⟨w_cV zw29 zo8 rfl rfl zin42 zse42 zca42 (by decide +kernel) (by decide +kernel) zmk_HummingSet_Reader_33 (by decide +kernel : decode (zb 29) 57 = .ok (.invokevirtual 33, 3)), List.forall_mem_cons.mpr ⟨w_iload (by decide +kernel : decode (zb 29) 60 = .ok (.iload 5, 2)), List.forall_mem_cons.mpr ⟨w_iconst (by decide +kernel : decode (zb 29) 62 = .ok (.iconst 1, 1)) rfl, List.forall_mem_cons.mpr ⟨w_iadd (by decide +kernel : decode (zb 29) 63 = .ok (.iadd, 1)), List.forall_mem_cons.mpr ⟨w_iload (by decide +kernel : decode (zb 29) 64 = .ok (.iload 4, 2)), List.forall_mem_cons.mpr ⟨w_ige (by decide +kernel : decode (zb 29) 66 = .ok (.if_icmp .ge 8, 3)) rfl, List.forall_mem_cons.mpr ⟨w_bipush (by decide +kernel : decode (zb 29) 69 = .ok (.bipush 44, 2)) rfl, List.forall_mem_cons.mpr ⟨w_goto (by decide +kernel : decode (zb 29) 71 = .ok (.goto 5, 3)) rfl, List.forall_mem_cons.mpr ⟨w_bipush (by decide +kernel : decode (zb 29) 74 = .ok (.bipush 59, 2)) rfl, fun _ h => absurd h List.not_mem_nil⟩⟩⟩⟩⟩⟩⟩⟩⟩⟩⟩⟩⟩⟩⟩⟩⟩⟩⟩⟩⟩⟩⟩⟩⟩⟩⟩⟩⟩⟩⟩⟩⟩⟩⟩⟩⟩⟩⟩⟩
set_option maxRecDepth 100000 in
set_option maxHeartbeats 4000000 in
theorem zs29_1 : ∀ q ∈ ([(76, z_ieq 81), (79, z_ic 0 1), (80, z_zr), (81, z_al 0 1), (82, z_dup), (83, z_gI 5 1), (86, z_ic 1 1), (87, z_iadd), (88, z_pI 5 1), (91, z_inc 5 1), (94, z_goto 35), (97, z_al 0 1), (98, z_il 3 1), (99, z_al 2 1), (100, z_cV 5 32 6 2), (103, z_zr)] : List (Nat × ZIns)), zSn 29 q := List.forall_mem_cons.mpr ⟨w_ieq (by decide +kernel : decode (zb 29) 76 = .ok (.if_icmp .eq 5, 3)) rfl, List.forall_mem_cons.mpr ⟨w_iconst (by decide +kernel : decode (zb 29) 79 = .ok (.iconst 0, 1)) rfl, List.forall_mem_cons.mpr ⟨w_zr (by decide +kernel : decode (zb 29) 80 = .ok (.ireturn, 1)) rfl, List.forall_mem_cons.mpr ⟨w_aload_n (by decide +kernel : decode (zb 29) 81 = .ok (.aload_n 0, 1)) rfl, List.forall_mem_cons.mpr ⟨w_dup (by decide +kernel : decode (zb 29) 82 = .ok (.dup, 1)), List.forall_mem_cons.mpr ⟨w_gI zw29 (j := 1) zo5 (by decide +kernel) zfk_HummingSet_Reader_20 rfl (by decide +kernel : decode (zb 29) 83 = .ok (.getfield 20, 3)), List.forall_mem_cons.mpr ⟨w_iconst (by decide +kernel : decode (zb 29) 86 = .ok (.iconst 1, 1)) rfl, List.forall_mem_cons.mpr ⟨w_iadd (by decide +kernel : decode (zb 29) 87 = .ok (.iadd, 1)), List.forall_mem_cons.mpr ⟨w_pI zw29 (j := 1) zo5 (by decide +kernel) zfk_HummingSet_Reader_20 rfl rfl rfl (by decide +kernel : decode (zb 29) 88 = .ok (.putfield 20, 3)), List.forall_mem_cons.mpr ⟨w_iinc (by decide +kernel : decode (zb 29) 91 = .ok (.iinc 5 1, 3)) rfl, List.forall_mem_cons.mpr ⟨w_goto (by decide +kernel : decode (zb 29) 94 = .ok (.goto (-59), 3)) rfl, List.forall_mem_cons.mpr ⟨w_aload_n (by decide +kernel : decode (zb 29) 97 = .ok (.aload_n 0, 1)) rfl, List.forall_mem_cons.mpr ⟨w_iload_n (by decide +kernel : decode (zb 29) 98 = .ok (.iload_n 3, 1)) rfl, List.forall_mem_cons.mpr ⟨w_aload_n (by decide +kernel : decode (zb 29) 99 = .ok (.aload_n 2, 1)) rfl, List.forall_mem_cons.mpr ⟨w_cV zw29 zo5 rfl rfl zin32 zse32 zca32 (by decide +kernel) (by decide +kernel) zmk_HummingSet_Reader_44 (by decide +kernel : decode (zb 29) 100 = .ok (.invokevirtual 44, 3)), List.forall_mem_cons.mpr ⟨w_zr (by decide +kernel : decode (zb 29) 103 = .ok (.ireturn, 1)) rfl, fun _ h => absurd h List.not_mem_nil⟩⟩⟩⟩⟩⟩⟩⟩⟩⟩⟩⟩⟩⟩⟩⟩
theorem zs29 : ∀ q ∈ zc29, zSn 29 q := List.forall_mem_append.mpr ⟨zs29_0, zs29_1⟩
-- HummingSet$Reader.numbersOf(I)I
def zc30 : List (Nat × ZIns) := [(0, z_il 0 1), (1, z_sw 102 [(99, 96), (100, 102), (101, 96), (102, 98), (103, 102), (104, 98), (105, 102), (106, 102), (107, 96), (108, 102), (109, 98), (110, 102), (111, 102), (112, 100), (113, 102), (114, 102), (115, 96), (116, 102), (117, 102), (118, 98)]), (96, z_ic 2 1), (97, z_ir), (98, z_ic 3 1), (99, z_ir), (100, z_ic 5 1), (101, z_ir), (102, z_ic 0 1), (103, z_ir)]
set_option maxRecDepth 100000 in
set_option maxHeartbeats 4000000 in
theorem zs30_0 : ∀ q ∈ ([(0, z_il 0 1), (1, z_sw 102 [(99, 96), (100, 102), (101, 96), (102, 98), (103, 102), (104, 98), (105, 102), (106, 102), (107, 96), (108, 102), (109, 98), (110, 102), (111, 102), (112, 100), (113, 102), (114, 102), (115, 96), (116, 102), (117, 102), (118, 98)]), (96, z_ic 2 1), (97, z_ir), (98, z_ic 3 1), (99, z_ir), (100, z_ic 5 1), (101, z_ir), (102, z_ic 0 1), (103, z_ir)] : List (Nat × ZIns)), zSn 30 q := List.forall_mem_cons.mpr ⟨w_iload_n (by decide +kernel : decode (zb 30) 0 = .ok (.iload_n 0, 1)) rfl, List.forall_mem_cons.mpr ⟨w_tsw (by decide +kernel : decode (zb 30) 1 = .ok (.tableswitch 101 99 118 #[95, 101, 95, 97, 101, 97, 101, 101, 95, 101, 97, 101, 101, 99, 101, 101, 95, 101, 101, 97], 95)) rfl (by decide +kernel) (by decide +kernel), List.forall_mem_cons.mpr ⟨w_iconst (by decide +kernel : decode (zb 30) 96 = .ok (.iconst 2, 1)) rfl, List.forall_mem_cons.mpr ⟨w_ir (by decide +kernel : decode (zb 30) 97 = .ok (.ireturn, 1)) rfl, List.forall_mem_cons.mpr ⟨w_iconst (by decide +kernel : decode (zb 30) 98 = .ok (.iconst 3, 1)) rfl, List.forall_mem_cons.mpr ⟨w_ir (by decide +kernel : decode (zb 30) 99 = .ok (.ireturn, 1)) rfl, List.forall_mem_cons.mpr ⟨w_iconst (by decide +kernel : decode (zb 30) 100 = .ok (.iconst 5, 1)) rfl, List.forall_mem_cons.mpr ⟨w_ir (by decide +kernel : decode (zb 30) 101 = .ok (.ireturn, 1)) rfl, List.forall_mem_cons.mpr ⟨w_iconst (by decide +kernel : decode (zb 30) 102 = .ok (.iconst 0, 1)) rfl, List.forall_mem_cons.mpr ⟨w_ir (by decide +kernel : decode (zb 30) 103 = .ok (.ireturn, 1)) rfl, fun _ h => absurd h List.not_mem_nil⟩⟩⟩⟩⟩⟩⟩⟩⟩⟩
theorem zs30 : ∀ q ∈ zc30, zSn 30 q := zs30_0
-- HummingSet$Reader.readNumber(LHummingSet$Text;I)Z
def zc31 : List (Nat × ZIns) := [(0, z_al 1 1), (1, z_al 0 1), (2, z_gI 5 1), (5, z_cV 8 42 2 1), (8, z_ic 45 2), (10, z_ine 17), (13, z_ic 1 1), (14, z_goto 18), (17, z_ic 0 1), (18, z_is 3 1), (19, z_il 3 1), (20, z_ifeq 33), (23, z_al 0 1), (24, z_dup), (25, z_gI 5 1), (28, z_ic 1 1), (29, z_iadd), (30, z_pI 5 1), (33, z_ic 0 1), (34, z_is 4 2), (36, z_ic 0 1), (37, z_is 5 2), (39, z_il 5 2), (41, z_ic 3 1), (42, z_ige 98), (45, z_al 1 1), (46, z_al 0 1), (47, z_gI 5 1), (50, z_cV 8 42 2 1), (53, z_ic 48 2), (55, z_ic 57 2), (57, z_cS 100 3 3), (60, z_ifeq 98), (63, z_il 4 2), (65, z_ic 10 2), (67, z_imul), (68, z_al 1 1), (69, z_al 0 1), (70, z_gI 5 1), (73, z_cV 8 42 2 1), (76, z_iadd), (77, z_ic 48 2), (79, z_isub), (80, z_is 4 2), (82, z_inc 5 1), (85, z_al 0 1), (86, z_dup), (87, z_gI 5 1), (90, z_ic 1 1), (91, z_iadd), (92, z_pI 5 1), (95, z_goto 39), (98, z_il 5 2), (100, z_ifeq 121), (103, z_il 3 1), (104, z_ifeq 112), (107, z_il 4 2), (109, z_ifeq 121), (112, z_il 2 1), (113, z_iflt 121), (116, z_il 2 1), (117, z_ic 5 1), (118, z_ilt 123), (121, z_ic 0 1), (122, z_zr), (123, z_al 0 1), (124, z_gR 5 0), (127, z_il 2 1), (128, z_il 3 1), (129, z_ifeq 138), (132, z_il 4 2), (134, z_ineg), (135, z_goto 140), (138, z_il 4 2), (140, z_iast), (141, z_ic 1 1), (142, z_zr)]
set_option maxRecDepth 100000 in
set_option maxHeartbeats 4000000 in
theorem zs31_0 : ∀ q ∈ ([(0, z_al 1 1), (1, z_al 0 1), (2, z_gI 5 1), (5, z_cV 8 42 2 1), (8, z_ic 45 2), (10, z_ine 17), (13, z_ic 1 1), (14, z_goto 18), (17, z_ic 0 1), (18, z_is 3 1), (19, z_il 3 1), (20, z_ifeq 33), (23, z_al 0 1), (24, z_dup), (25, z_gI 5 1), (28, z_ic 1 1), (29, z_iadd), (30, z_pI 5 1), (33, z_ic 0 1), (34, z_is 4 2), (36, z_ic 0 1), (37, z_is 5 2), (39, z_il 5 2), (41, z_ic 3 1), (42, z_ige 98), (45, z_al 1 1), (46, z_al 0 1), (47, z_gI 5 1), (50, z_cV 8 42 2 1), (53, z_ic 48 2), (55, z_ic 57 2), (57, z_cS 100 3 3), (60, z_ifeq 98), (63, z_il 4 2), (65, z_ic 10 2), (67, z_imul), (68, z_al 1 1), (69, z_al 0 1), (70, z_gI 5 1), (73, z_cV 8 42 2 1)] : List (Nat × ZIns)), zSn 31 q := List.forall_mem_cons.mpr ⟨w_aload_n (by decide +kernel : decode (zb 31) 0 = .ok (.aload_n 1, 1)) rfl, List.forall_mem_cons.mpr ⟨w_aload_n (by decide +kernel : decode (zb 31) 1 = .ok (.aload_n 0, 1)) rfl, List.forall_mem_cons.mpr ⟨w_gI zw31 (j := 1) zo5 (by decide +kernel) zfk_HummingSet_Reader_20 rfl (by decide +kernel : decode (zb 31) 2 = .ok (.getfield 20, 3)), List.forall_mem_cons.mpr ⟨w_cV zw31 zo8 rfl rfl zin42 zse42 zca42 (by decide +kernel) (by decide +kernel) zmk_HummingSet_Reader_33 (by decide +kernel : decode (zb 31) 5 = .ok (.invokevirtual 33, 3)), List.forall_mem_cons.mpr ⟨w_bipush (by decide +kernel : decode (zb 31) 8 = .ok (.bipush 45, 2)) rfl, List.forall_mem_cons.mpr ⟨w_ine (by decide +kernel : decode (zb 31) 10 = .ok (.if_icmp .ne 7, 3)) rfl, List.forall_mem_cons.mpr ⟨w_iconst (by decide +kernel : decode (zb 31) 13 = .ok (.iconst 1, 1)) rfl, List.forall_mem_cons.mpr ⟨w_goto (by decide +kernel : decode (zb 31) 14 = .ok (.goto 4, 3)) rfl, List.forall_mem_cons.mpr ⟨w_iconst (by decide +kernel : decode (zb 31) 17 = .ok (.iconst 0, 1)) rfl, List.forall_mem_cons.mpr ⟨w_istore_n (by decide +kernel : decode (zb 31) 18 = .ok (.istore_n 3, 1)) rfl, List.forall_mem_cons.mpr ⟨w_iload_n (by decide +kernel : decode (zb 31) 19 = .ok (.iload_n 3, 1)) rfl, List.forall_mem_cons.mpr ⟨w_ifeq (by decide +kernel : decode (zb 31) 20 = .ok (.ifCond .eq 13, 3)) rfl, List.forall_mem_cons.mpr ⟨w_aload_n (by decide +kernel : decode (zb 31) 23 = .ok (.aload_n 0, 1)) rfl, List.forall_mem_cons.mpr ⟨w_dup (by decide +kernel : decode (zb 31) 24 = .ok (.dup, 1)), List.forall_mem_cons.mpr ⟨w_gI zw31 (j := 1) zo5 (by decide +kernel) zfk_HummingSet_Reader_20 rfl (by decide +kernel : decode (zb 31) 25 = .ok (.getfield 20, 3)), List.forall_mem_cons.mpr ⟨w_iconst (by decide +kernel : decode (zb 31) 28 = .ok (.iconst 1, 1)) rfl, List.forall_mem_cons.mpr ⟨w_iadd (by decide +kernel : decode (zb 31) 29 = .ok (.iadd, 1)), List.forall_mem_cons.mpr ⟨w_pI zw31 (j := 1) zo5 (by decide +kernel) zfk_HummingSet_Reader_20 rfl rfl rfl (by decide +kernel : decode (zb 31) 30 = .ok (.putfield 20, 3)), List.forall_mem_cons.mpr ⟨w_iconst (by decide +kernel : decode (zb 31) 33 = .ok (.iconst 0, 1)) rfl, List.forall_mem_cons.mpr ⟨w_istore (by decide +kernel : decode (zb 31) 34 = .ok (.istore 4, 2)), List.forall_mem_cons.mpr ⟨w_iconst (by decide +kernel : decode (zb 31) 36 = .ok (.iconst 0, 1)) rfl, List.forall_mem_cons.mpr ⟨w_istore (by decide +kernel : decode (zb 31) 37 = .ok (.istore 5, 2)), List.forall_mem_cons.mpr ⟨w_iload (by decide +kernel : decode (zb 31) 39 = .ok (.iload 5, 2)), List.forall_mem_cons.mpr ⟨w_iconst (by decide +kernel : decode (zb 31) 41 = .ok (.iconst 3, 1)) rfl, List.forall_mem_cons.mpr ⟨w_ige (by decide +kernel : decode (zb 31) 42 = .ok (.if_icmp .ge 56, 3)) rfl, List.forall_mem_cons.mpr ⟨w_aload_n (by decide +kernel : decode (zb 31) 45 = .ok (.aload_n 1, 1)) rfl, List.forall_mem_cons.mpr ⟨w_aload_n (by decide +kernel : decode (zb 31) 46 = .ok (.aload_n 0, 1)) rfl, List.forall_mem_cons.mpr ⟨w_gI zw31 (j := 1) zo5 (by decide +kernel) zfk_HummingSet_Reader_20 rfl (by decide +kernel : decode (zb 31) 47 = .ok (.getfield 20, 3)), List.forall_mem_cons.mpr ⟨w_cV zw31 zo8 rfl rfl zin42 zse42 zca42 (by decide +kernel) (by decide +kernel) zmk_HummingSet_Reader_33 (by decide +kernel : decode (zb 31) 50 = .ok (.invokevirtual 33, 3)), List.forall_mem_cons.mpr ⟨w_bipush (by decide +kernel : decode (zb 31) 53 = .ok (.bipush 48, 2)) rfl, List.forall_mem_cons.mpr ⟨w_bipush (by decide +kernel : decode (zb 31) 55 = .ok (.bipush 57, 2)) rfl, List.forall_mem_cons.mpr ⟨w_cS zw31 rfl zst100 zca100 (by decide +kernel) (by decide +kernel) zmk_HummingSet_Reader_48 (by decide +kernel : decode (zb 31) 57 = .ok (.invokestatic 48, 3)), List.forall_mem_cons.mpr ⟨w_ifeq (by decide +kernel : decode (zb 31) 60 = .ok (.ifCond .eq 38, 3)) rfl, List.forall_mem_cons.mpr ⟨w_iload (by decide +kernel : decode (zb 31) 63 = .ok (.iload 4, 2)), List.forall_mem_cons.mpr ⟨w_bipush (by decide +kernel : decode (zb 31) 65 = .ok (.bipush 10, 2)) rfl, List.forall_mem_cons.mpr ⟨w_imul (by decide +kernel : decode (zb 31) 67 = .ok (.imul, 1)), List.forall_mem_cons.mpr ⟨w_aload_n (by decide +kernel : decode (zb 31) 68 = .ok (.aload_n 1, 1)) rfl, List.forall_mem_cons.mpr ⟨w_aload_n (by decide +kernel : decode (zb 31) 69 = .ok (.aload_n 0, 1)) rfl, List.forall_mem_cons.mpr ⟨w_gI zw31 (j := 1) zo5 (by decide +kernel) zfk_HummingSet_Reader_20 rfl (by decide +kernel : decode (zb 31) 70 = .ok (.getfield 20, 3)), List.forall_mem_cons.mpr ⟨w_cV zw31 zo8 rfl rfl zin42 zse42 zca42 (by decide +kernel) (by decide +kernel) zmk_HummingSet_Reader_33 (by decide +kernel : decode (zb 31) 73 = .ok (.invokevirtual 33, 3)), fun _ h => absurd h List.not_mem_nil⟩⟩⟩⟩⟩⟩⟩⟩⟩⟩⟩⟩⟩⟩⟩⟩⟩⟩⟩⟩⟩⟩⟩⟩⟩⟩⟩⟩⟩⟩⟩⟩⟩⟩⟩⟩⟩⟩⟩⟩
set_option maxRecDepth 100000 in
set_option maxHeartbeats 4000000 in
theorem zs31_1 : ∀ q ∈ ([(76, z_iadd), (77, z_ic 48 2), (79, z_isub), (80, z_is 4 2), (82, z_inc 5 1), (85, z_al 0 1), (86, z_dup), (87, z_gI 5 1), (90, z_ic 1 1), (91, z_iadd), (92, z_pI 5 1), (95, z_goto 39), (98, z_il 5 2), (100, z_ifeq 121), (103, z_il 3 1), (104, z_ifeq 112), (107, z_il 4 2), (109, z_ifeq 121), (112, z_il 2 1), (113, z_iflt 121), (116, z_il 2 1), (117, z_ic 5 1), (118, z_ilt 123), (121, z_ic 0 1), (122, z_zr), (123, z_al 0 1), (124, z_gR 5 0), (127, z_il 2 1), (128, z_il 3 1), (129, z_ifeq 138), (132, z_il 4 2), (134, z_ineg), (135, z_goto 140), (138, z_il 4 2), (140, z_iast), (141, z_ic 1 1), (142, z_zr)] : List (Nat × ZIns)), zSn 31 q := List.forall_mem_cons.mpr ⟨w_iadd (by decide +kernel : decode (zb 31) 76 = .ok (.iadd, 1)), List.forall_mem_cons.mpr ⟨w_bipush (by decide +kernel : decode (zb 31) 77 = .ok (.bipush 48, 2)) rfl, List.forall_mem_cons.mpr ⟨w_isub (by decide +kernel : decode (zb 31) 79 = .ok (.isub, 1)), List.forall_mem_cons.mpr ⟨w_istore (by decide +kernel : decode (zb 31) 80 = .ok (.istore 4, 2)), List.forall_mem_cons.mpr ⟨w_iinc (by decide +kernel : decode (zb 31) 82 = .ok (.iinc 5 1, 3)) rfl, List.forall_mem_cons.mpr ⟨w_aload_n (by decide +kernel : decode (zb 31) 85 = .ok (.aload_n 0, 1)) rfl, List.forall_mem_cons.mpr ⟨w_dup (by decide +kernel : decode (zb 31) 86 = .ok (.dup, 1)), List.forall_mem_cons.mpr ⟨w_gI zw31 (j := 1) zo5 (by decide +kernel) zfk_HummingSet_Reader_20 rfl (by decide +kernel : decode (zb 31) 87 = .ok (.getfield 20, 3)), List.forall_mem_cons.mpr ⟨w_iconst (by decide +kernel : decode (zb 31) 90 = .ok (.iconst 1, 1)) rfl, List.forall_mem_cons.mpr ⟨w_iadd (by decide +kernel : decode (zb 31) 91 = .ok (.iadd, 1)), List.forall_mem_cons.mpr ⟨w_pI zw31 (j := 1) zo5 (by decide +kernel) zfk_HummingSet_Reader_20 rfl rfl rfl (by decide +kernel : decode (zb 31) 92 = .ok (.putfield 20, 3)), List.forall_mem_cons.mpr ⟨w_goto (by decide +kernel : decode (zb 31) 95 = .ok (.goto (-56), 3)) rfl, List.forall_mem_cons.mpr ⟨w_iload (by decide +kernel : decode (zb 31) 98 = .ok (.iload 5, 2)), List.forall_mem_cons.mpr ⟨w_ifeq (by decide +kernel : decode (zb 31) 100 = .ok (.ifCond .eq 21, 3)) rfl, List.forall_mem_cons.mpr ⟨w_iload_n (by decide +kernel : decode (zb 31) 103 = .ok (.iload_n 3, 1)) rfl, List.forall_mem_cons.mpr ⟨w_ifeq (by decide +kernel : decode (zb 31) 104 = .ok (.ifCond .eq 8, 3)) rfl, List.forall_mem_cons.mpr ⟨w_iload (by decide +kernel : decode (zb 31) 107 = .ok (.iload 4, 2)), List.forall_mem_cons.mpr ⟨w_ifeq (by decide +kernel : decode (zb 31) 109 = .ok (.ifCond .eq 12, 3)) rfl, List.forall_mem_cons.mpr ⟨w_iload_n (by decide +kernel : decode (zb 31) 112 = .ok (.iload_n 2, 1)) rfl, List.forall_mem_cons.mpr ⟨w_iflt (by decide +kernel : decode (zb 31) 113 = .ok (.ifCond .lt 8, 3)) rfl, List.forall_mem_cons.mpr ⟨w_iload_n (by decide +kernel : decode (zb 31) 116 = .ok (.iload_n 2, 1)) rfl, List.forall_mem_cons.mpr ⟨w_iconst (by decide +kernel : decode (zb 31) 117 = .ok (.iconst 5, 1)) rfl, List.forall_mem_cons.mpr ⟨w_ilt (by decide +kernel : decode (zb 31) 118 = .ok (.if_icmp .lt 5, 3)) rfl, List.forall_mem_cons.mpr ⟨w_iconst (by decide +kernel : decode (zb 31) 121 = .ok (.iconst 0, 1)) rfl, List.forall_mem_cons.mpr ⟨w_zr (by decide +kernel : decode (zb 31) 122 = .ok (.ireturn, 1)) rfl, List.forall_mem_cons.mpr ⟨w_aload_n (by decide +kernel : decode (zb 31) 123 = .ok (.aload_n 0, 1)) rfl, List.forall_mem_cons.mpr ⟨w_gR zw31 (j := 0) zo5 (by decide +kernel) zfk_HummingSet_Reader_9 rfl (by decide +kernel : decode (zb 31) 124 = .ok (.getfield 9, 3)), List.forall_mem_cons.mpr ⟨w_iload_n (by decide +kernel : decode (zb 31) 127 = .ok (.iload_n 2, 1)) rfl, List.forall_mem_cons.mpr ⟨w_iload_n (by decide +kernel : decode (zb 31) 128 = .ok (.iload_n 3, 1)) rfl, List.forall_mem_cons.mpr ⟨w_ifeq (by decide +kernel : decode (zb 31) 129 = .ok (.ifCond .eq 9, 3)) rfl, List.forall_mem_cons.mpr ⟨w_iload (by decide +kernel : decode (zb 31) 132 = .ok (.iload 4, 2)), List.forall_mem_cons.mpr ⟨w_ineg (by decide +kernel : decode (zb 31) 134 = .ok (.ineg, 1)), List.forall_mem_cons.mpr ⟨w_goto (by decide +kernel : decode (zb 31) 135 = .ok (.goto 5, 3)) rfl, List.forall_mem_cons.mpr ⟨w_iload (by decide +kernel : decode (zb 31) 138 = .ok (.iload 4, 2)), List.forall_mem_cons.mpr ⟨w_iast (by decide +kernel : decode (zb 31) 140 = .ok (.iastore, 1)), List.forall_mem_cons.mpr ⟨w_iconst (by decide +kernel : decode (zb 31) 141 = .ok (.iconst 1, 1)) rfl, List.forall_mem_cons.mpr ⟨w_zr (by decide +kernel : decode (zb 31) 142 = .ok (.ireturn, 1)) rfl, fun _ h => absurd h List.not_mem_nil⟩⟩⟩⟩⟩⟩⟩⟩⟩⟩⟩⟩⟩⟩⟩⟩⟩⟩⟩⟩⟩⟩⟩⟩⟩⟩⟩⟩⟩⟩⟩⟩⟩⟩⟩⟩⟩
theorem zs31 : ∀ q ∈ zc31, zSn 31 q := List.forall_mem_append.mpr ⟨zs31_0, zs31_1⟩
-- HummingSet$Reader.takeItem(ILHummingSet$Wireless;)Z
def zc32 : List (Nat × ZIns) := [(0, z_al 0 1), (1, z_gR 5 0), (4, z_ic 0 1), (5, z_iald 20), (6, z_is 3 1), (7, z_al 0 1), (8, z_gR 5 0), (11, z_ic 1 1), (12, z_iald 20), (13, z_is 4 2), (15, z_al 0 1), (16, z_gR 5 0), (19, z_ic 2 1), (20, z_iald 20), (21, z_is 5 2), (23, z_il 1 1), (24, z_sw 214 [(99, 170), (100, 214), (101, 188), (102, 178), (103, 214), (104, 150), (105, 214), (106, 214), (107, 196), (108, 214), (109, 160), (110, 214), (111, 214), (112, 128), (113, 214), (114, 214), (115, 120), (116, 214), (117, 214), (118, 204)]), (120, z_al 2 1), (121, z_il 3 1), (122, z_il 4 2), (124, z_cV 10 51 5 2), (127, z_zr), (128, z_al 2 1), (129, z_il 3 1), (130, z_il 4 2), (132, z_il 5 2), (134, z_al 0 1), (135, z_gR 5 0), (138, z_ic 3 1), (139, z_iald 20), (140, z_al 0 1), (141, z_gR 5 0), (144, z_ic 4 1), (145, z_iald 20), (146, z_cV 10 52 8 5), (149, z_zr), (150, z_al 2 1), (151, z_il 3 1), (152, z_il 4 2), (154, z_il 5 2), (156, z_cV 10 53 4 3), (159, z_zr), (160, z_al 2 1), (161, z_il 3 1), (162, z_il 4 2), (164, z_il 5 2), (166, z_cV 10 54 4 3), (169, z_zr), (170, z_al 2 1), (171, z_il 3 1), (172, z_il 4 2), (174, z_cV 10 55 3 2), (177, z_zr), (178, z_al 2 1), (179, z_il 3 1), (180, z_il 4 2), (182, z_il 5 2), (184, z_cV 10 56 5 3), (187, z_zr), (188, z_al 2 1), (189, z_il 3 1), (190, z_il 4 2), (192, z_cV 10 57 3 2), (195, z_zr), (196, z_al 2 1), (197, z_il 3 1), (198, z_il 4 2), (200, z_cV 10 58 3 2), (203, z_zr), (204, z_al 2 1), (205, z_il 3 1), (206, z_il 4 2), (208, z_il 5 2), (210, z_cV 10 59 4 3), (213, z_zr), (214, z_ic 0 1), (215, z_zr)]
set_option maxRecDepth 100000 in
set_option maxHeartbeats 4000000 in
theorem zs32_0 : ∀ q ∈ ([(0, z_al 0 1), (1, z_gR 5 0), (4, z_ic 0 1), (5, z_iald 20), (6, z_is 3 1), (7, z_al 0 1), (8, z_gR 5 0), (11, z_ic 1 1), (12, z_iald 20), (13, z_is 4 2), (15, z_al 0 1), (16, z_gR 5 0), (19, z_ic 2 1), (20, z_iald 20), (21, z_is 5 2), (23, z_il 1 1), (24, z_sw 214 [(99, 170), (100, 214), (101, 188), (102, 178), (103, 214), (104, 150), (105, 214), (106, 214), (107, 196), (108, 214), (109, 160), (110, 214), (111, 214), (112, 128), (113, 214), (114, 214), (115, 120), (116, 214), (117, 214), (118, 204)]), (120, z_al 2 1), (121, z_il 3 1), (122, z_il 4 2), (124, z_cV 10 51 5 2), (127, z_zr), (128, z_al 2 1), (129, z_il 3 1), (130, z_il 4 2), (132, z_il 5 2), (134, z_al 0 1), (135, z_gR 5 0), (138, z_ic 3 1), (139, z_iald 20), (140, z_al 0 1), (141, z_gR 5 0), (144, z_ic 4 1), (145, z_iald 20), (146, z_cV 10 52 8 5), (149, z_zr), (150, z_al 2 1), (151, z_il 3 1), (152, z_il 4 2), (154, z_il 5 2)] : List (Nat × ZIns)), zSn 32 q := List.forall_mem_cons.mpr ⟨w_aload_n (by decide +kernel : decode (zb 32) 0 = .ok (.aload_n 0, 1)) rfl, List.forall_mem_cons.mpr ⟨w_gR zw32 (j := 0) zo5 (by decide +kernel) zfk_HummingSet_Reader_9 rfl (by decide +kernel : decode (zb 32) 1 = .ok (.getfield 9, 3)), List.forall_mem_cons.mpr ⟨w_iconst (by decide +kernel : decode (zb 32) 4 = .ok (.iconst 0, 1)) rfl, List.forall_mem_cons.mpr ⟨w_iald (by decide +kernel : decode (zb 32) 5 = .ok (.iaload, 1)), List.forall_mem_cons.mpr ⟨w_istore_n (by decide +kernel : decode (zb 32) 6 = .ok (.istore_n 3, 1)) rfl, List.forall_mem_cons.mpr ⟨w_aload_n (by decide +kernel : decode (zb 32) 7 = .ok (.aload_n 0, 1)) rfl, List.forall_mem_cons.mpr ⟨w_gR zw32 (j := 0) zo5 (by decide +kernel) zfk_HummingSet_Reader_9 rfl (by decide +kernel : decode (zb 32) 8 = .ok (.getfield 9, 3)), List.forall_mem_cons.mpr ⟨w_iconst (by decide +kernel : decode (zb 32) 11 = .ok (.iconst 1, 1)) rfl, List.forall_mem_cons.mpr ⟨w_iald (by decide +kernel : decode (zb 32) 12 = .ok (.iaload, 1)), List.forall_mem_cons.mpr ⟨w_istore (by decide +kernel : decode (zb 32) 13 = .ok (.istore 4, 2)), List.forall_mem_cons.mpr ⟨w_aload_n (by decide +kernel : decode (zb 32) 15 = .ok (.aload_n 0, 1)) rfl, List.forall_mem_cons.mpr ⟨w_gR zw32 (j := 0) zo5 (by decide +kernel) zfk_HummingSet_Reader_9 rfl (by decide +kernel : decode (zb 32) 16 = .ok (.getfield 9, 3)), List.forall_mem_cons.mpr ⟨w_iconst (by decide +kernel : decode (zb 32) 19 = .ok (.iconst 2, 1)) rfl, List.forall_mem_cons.mpr ⟨w_iald (by decide +kernel : decode (zb 32) 20 = .ok (.iaload, 1)), List.forall_mem_cons.mpr ⟨w_istore (by decide +kernel : decode (zb 32) 21 = .ok (.istore 5, 2)), List.forall_mem_cons.mpr ⟨w_iload_n (by decide +kernel : decode (zb 32) 23 = .ok (.iload_n 1, 1)) rfl, List.forall_mem_cons.mpr ⟨w_tsw (by decide +kernel : decode (zb 32) 24 = .ok (.tableswitch 190 99 118 #[146, 190, 164, 154, 190, 126, 190, 190, 172, 190, 136, 190, 190, 104, 190, 190, 96, 190, 190, 180], 96)) rfl (by decide +kernel) (by decide +kernel), List.forall_mem_cons.mpr ⟨w_aload_n (by decide +kernel : decode (zb 32) 120 = .ok (.aload_n 2, 1)) rfl, List.forall_mem_cons.mpr ⟨w_iload_n (by decide +kernel : decode (zb 32) 121 = .ok (.iload_n 3, 1)) rfl, List.forall_mem_cons.mpr ⟨w_iload (by decide +kernel : decode (zb 32) 122 = .ok (.iload 4, 2)), List.forall_mem_cons.mpr ⟨w_cV zw32 zo10 rfl rfl zin51 zse51 zca51 (by decide +kernel) (by decide +kernel) zmk_HummingSet_Reader_52 (by decide +kernel : decode (zb 32) 124 = .ok (.invokevirtual 52, 3)), List.forall_mem_cons.mpr ⟨w_zr (by decide +kernel : decode (zb 32) 127 = .ok (.ireturn, 1)) rfl, List.forall_mem_cons.mpr ⟨w_aload_n (by decide +kernel : decode (zb 32) 128 = .ok (.aload_n 2, 1)) rfl, List.forall_mem_cons.mpr ⟨w_iload_n (by decide +kernel : decode (zb 32) 129 = .ok (.iload_n 3, 1)) rfl, List.forall_mem_cons.mpr ⟨w_iload (by decide +kernel : decode (zb 32) 130 = .ok (.iload 4, 2)), List.forall_mem_cons.mpr ⟨w_iload (by decide +kernel : decode (zb 32) 132 = .ok (.iload 5, 2)), List.forall_mem_cons.mpr ⟨w_aload_n (by decide +kernel : decode (zb 32) 134 = .ok (.aload_n 0, 1)) rfl, List.forall_mem_cons.mpr ⟨w_gR zw32 (j := 0) zo5 (by decide +kernel) zfk_HummingSet_Reader_9 rfl (by decide +kernel : decode (zb 32) 135 = .ok (.getfield 9, 3)), List.forall_mem_cons.mpr ⟨w_iconst (by decide +kernel : decode (zb 32) 138 = .ok (.iconst 3, 1)) rfl, List.forall_mem_cons.mpr ⟨w_iald (by decide +kernel : decode (zb 32) 139 = .ok (.iaload, 1)), List.forall_mem_cons.mpr ⟨w_aload_n (by decide +kernel : decode (zb 32) 140 = .ok (.aload_n 0, 1)) rfl, List.forall_mem_cons.mpr ⟨w_gR zw32 (j := 0) zo5 (by decide +kernel) zfk_HummingSet_Reader_9 rfl (by decide +kernel : decode (zb 32) 141 = .ok (.getfield 9, 3)), List.forall_mem_cons.mpr ⟨w_iconst (by decide +kernel : decode (zb 32) 144 = .ok (.iconst 4, 1)) rfl, List.forall_mem_cons.mpr ⟨w_iald (by decide +kernel : decode (zb 32) 145 = .ok (.iaload, 1)), List.forall_mem_cons.mpr ⟨w_cV zw32 zo10 rfl rfl zin52 zse52 zca52 (by decide +kernel) (by decide +kernel) zmk_HummingSet_Reader_56 (by decide +kernel : decode (zb 32) 146 = .ok (.invokevirtual 56, 3)), List.forall_mem_cons.mpr ⟨w_zr (by decide +kernel : decode (zb 32) 149 = .ok (.ireturn, 1)) rfl, List.forall_mem_cons.mpr ⟨w_aload_n (by decide +kernel : decode (zb 32) 150 = .ok (.aload_n 2, 1)) rfl, List.forall_mem_cons.mpr ⟨w_iload_n (by decide +kernel : decode (zb 32) 151 = .ok (.iload_n 3, 1)) rfl, List.forall_mem_cons.mpr ⟨w_iload (by decide +kernel : decode (zb 32) 152 = .ok (.iload 4, 2)), List.forall_mem_cons.mpr ⟨w_iload (by decide +kernel : decode (zb 32) 154 = .ok (.iload 5, 2)), fun _ h => absurd h List.not_mem_nil⟩⟩⟩⟩⟩⟩⟩⟩⟩⟩⟩⟩⟩⟩⟩⟩⟩⟩⟩⟩⟩⟩⟩⟩⟩⟩⟩⟩⟩⟩⟩⟩⟩⟩⟩⟩⟩⟩⟩⟩
set_option maxRecDepth 100000 in
set_option maxHeartbeats 4000000 in
theorem zs32_1 : ∀ q ∈ ([(156, z_cV 10 53 4 3), (159, z_zr), (160, z_al 2 1), (161, z_il 3 1), (162, z_il 4 2), (164, z_il 5 2), (166, z_cV 10 54 4 3), (169, z_zr), (170, z_al 2 1), (171, z_il 3 1), (172, z_il 4 2), (174, z_cV 10 55 3 2), (177, z_zr), (178, z_al 2 1), (179, z_il 3 1), (180, z_il 4 2), (182, z_il 5 2), (184, z_cV 10 56 5 3), (187, z_zr), (188, z_al 2 1), (189, z_il 3 1), (190, z_il 4 2), (192, z_cV 10 57 3 2), (195, z_zr), (196, z_al 2 1), (197, z_il 3 1), (198, z_il 4 2), (200, z_cV 10 58 3 2), (203, z_zr), (204, z_al 2 1), (205, z_il 3 1), (206, z_il 4 2), (208, z_il 5 2), (210, z_cV 10 59 4 3), (213, z_zr), (214, z_ic 0 1), (215, z_zr)] : List (Nat × ZIns)), zSn 32 q := List.forall_mem_cons.mpr ⟨w_cV zw32 zo10 rfl rfl zin53 zse53 zca53 (by decide +kernel) (by decide +kernel) zmk_HummingSet_Reader_60 (by decide +kernel : decode (zb 32) 156 = .ok (.invokevirtual 60, 3)), List.forall_mem_cons.mpr ⟨w_zr (by decide +kernel : decode (zb 32) 159 = .ok (.ireturn, 1)) rfl, List.forall_mem_cons.mpr ⟨w_aload_n (by decide +kernel : decode (zb 32) 160 = .ok (.aload_n 2, 1)) rfl, List.forall_mem_cons.mpr ⟨w_iload_n (by decide +kernel : decode (zb 32) 161 = .ok (.iload_n 3, 1)) rfl, List.forall_mem_cons.mpr ⟨w_iload (by decide +kernel : decode (zb 32) 162 = .ok (.iload 4, 2)), List.forall_mem_cons.mpr ⟨w_iload (by decide +kernel : decode (zb 32) 164 = .ok (.iload 5, 2)), List.forall_mem_cons.mpr ⟨w_cV zw32 zo10 rfl rfl zin54 zse54 zca54 (by decide +kernel) (by decide +kernel) zmk_HummingSet_Reader_63 (by decide +kernel : decode (zb 32) 166 = .ok (.invokevirtual 63, 3)), List.forall_mem_cons.mpr ⟨w_zr (by decide +kernel : decode (zb 32) 169 = .ok (.ireturn, 1)) rfl, List.forall_mem_cons.mpr ⟨w_aload_n (by decide +kernel : decode (zb 32) 170 = .ok (.aload_n 2, 1)) rfl, List.forall_mem_cons.mpr ⟨w_iload_n (by decide +kernel : decode (zb 32) 171 = .ok (.iload_n 3, 1)) rfl, List.forall_mem_cons.mpr ⟨w_iload (by decide +kernel : decode (zb 32) 172 = .ok (.iload 4, 2)), List.forall_mem_cons.mpr ⟨w_cV zw32 zo10 rfl rfl zin55 zse55 zca55 (by decide +kernel) (by decide +kernel) zmk_HummingSet_Reader_66 (by decide +kernel : decode (zb 32) 174 = .ok (.invokevirtual 66, 3)), List.forall_mem_cons.mpr ⟨w_zr (by decide +kernel : decode (zb 32) 177 = .ok (.ireturn, 1)) rfl, List.forall_mem_cons.mpr ⟨w_aload_n (by decide +kernel : decode (zb 32) 178 = .ok (.aload_n 2, 1)) rfl, List.forall_mem_cons.mpr ⟨w_iload_n (by decide +kernel : decode (zb 32) 179 = .ok (.iload_n 3, 1)) rfl, List.forall_mem_cons.mpr ⟨w_iload (by decide +kernel : decode (zb 32) 180 = .ok (.iload 4, 2)), List.forall_mem_cons.mpr ⟨w_iload (by decide +kernel : decode (zb 32) 182 = .ok (.iload 5, 2)), List.forall_mem_cons.mpr ⟨w_cV zw32 zo10 rfl rfl zin56 zse56 zca56 (by decide +kernel) (by decide +kernel) zmk_HummingSet_Reader_69 (by decide +kernel : decode (zb 32) 184 = .ok (.invokevirtual 69, 3)), List.forall_mem_cons.mpr ⟨w_zr (by decide +kernel : decode (zb 32) 187 = .ok (.ireturn, 1)) rfl, List.forall_mem_cons.mpr ⟨w_aload_n (by decide +kernel : decode (zb 32) 188 = .ok (.aload_n 2, 1)) rfl, List.forall_mem_cons.mpr ⟨w_iload_n (by decide +kernel : decode (zb 32) 189 = .ok (.iload_n 3, 1)) rfl, List.forall_mem_cons.mpr ⟨w_iload (by decide +kernel : decode (zb 32) 190 = .ok (.iload 4, 2)), List.forall_mem_cons.mpr ⟨w_cV zw32 zo10 rfl rfl zin57 zse57 zca57 (by decide +kernel) (by decide +kernel) zmk_HummingSet_Reader_72 (by decide +kernel : decode (zb 32) 192 = .ok (.invokevirtual 72, 3)), List.forall_mem_cons.mpr ⟨w_zr (by decide +kernel : decode (zb 32) 195 = .ok (.ireturn, 1)) rfl, List.forall_mem_cons.mpr ⟨w_aload_n (by decide +kernel : decode (zb 32) 196 = .ok (.aload_n 2, 1)) rfl, List.forall_mem_cons.mpr ⟨w_iload_n (by decide +kernel : decode (zb 32) 197 = .ok (.iload_n 3, 1)) rfl, List.forall_mem_cons.mpr ⟨w_iload (by decide +kernel : decode (zb 32) 198 = .ok (.iload 4, 2)), List.forall_mem_cons.mpr ⟨w_cV zw32 zo10 rfl rfl zin58 zse58 zca58 (by decide +kernel) (by decide +kernel) zmk_HummingSet_Reader_75 (by decide +kernel : decode (zb 32) 200 = .ok (.invokevirtual 75, 3)), List.forall_mem_cons.mpr ⟨w_zr (by decide +kernel : decode (zb 32) 203 = .ok (.ireturn, 1)) rfl, List.forall_mem_cons.mpr ⟨w_aload_n (by decide +kernel : decode (zb 32) 204 = .ok (.aload_n 2, 1)) rfl, List.forall_mem_cons.mpr ⟨w_iload_n (by decide +kernel : decode (zb 32) 205 = .ok (.iload_n 3, 1)) rfl, List.forall_mem_cons.mpr ⟨w_iload (by decide +kernel : decode (zb 32) 206 = .ok (.iload 4, 2)), List.forall_mem_cons.mpr ⟨w_iload (by decide +kernel : decode (zb 32) 208 = .ok (.iload 5, 2)), List.forall_mem_cons.mpr ⟨w_cV zw32 zo10 rfl rfl zin59 zse59 zca59 (by decide +kernel) (by decide +kernel) zmk_HummingSet_Reader_78 (by decide +kernel : decode (zb 32) 210 = .ok (.invokevirtual 78, 3)), List.forall_mem_cons.mpr ⟨w_zr (by decide +kernel : decode (zb 32) 213 = .ok (.ireturn, 1)) rfl, List.forall_mem_cons.mpr ⟨w_iconst (by decide +kernel : decode (zb 32) 214 = .ok (.iconst 0, 1)) rfl, List.forall_mem_cons.mpr ⟨w_zr (by decide +kernel : decode (zb 32) 215 = .ok (.ireturn, 1)) rfl, fun _ h => absurd h List.not_mem_nil⟩⟩⟩⟩⟩⟩⟩⟩⟩⟩⟩⟩⟩⟩⟩⟩⟩⟩⟩⟩⟩⟩⟩⟩⟩⟩⟩⟩⟩⟩⟩⟩⟩⟩⟩⟩⟩
theorem zs32 : ∀ q ∈ zc32, zSn 32 q := List.forall_mem_append.mpr ⟨zs32_0, zs32_1⟩
-- HummingSet$Search.<init>()V
def zc33 : List (Nat × ZIns) := []
theorem zs33 : ∀ q ∈ zc33, zSn 33 q := fun _ h => absurd h List.not_mem_nil
-- HummingSet$Search.find(LHummingSet$Wireless;LHummingSet$Bench;LHummingSet$Cases;I)V
def zc34 : List (Nat × ZIns) := [(0, z_al 0 1), (1, z_ic (-4) 2), (3, z_pI 6 1), (6, z_ic 0 1), (7, z_is 5 2), (9, z_il 5 2), (11, z_ic 4 1), (12, z_igt 112), (15, z_ic 0 1), (16, z_is 6 2), (18, z_il 6 2), (20, z_al 1 1), (21, z_il 5 2), (23, z_cV 10 50 2 1), (26, z_ige 106), (29, z_al 0 1), (30, z_al 1 1), (31, z_al 2 1), (32, z_al 3 1), (33, z_il 5 2), (35, z_il 6 2), (37, z_il 4 2), (39, z_cV 6 37 11 6), (42, z_ls 7 2), (44, z_al 1 1), (45, z_il 5 2), (47, z_il 6 2), (49, z_cV 10 60 3 2), (52, z_is 9 2), (54, z_al 0 1), (55, z_gI 6 1), (58, z_ic (-4) 2), (60, z_ieq 76), (63, z_al 0 1), (64, z_il 5 2), (66, z_ll 7 2), (68, z_il 9 2), (70, z_cV 6 35 5 3), (73, z_ifeq 100), (76, z_al 0 1), (77, z_il 5 2), (79, z_pI 6 1), (82, z_al 0 1), (83, z_il 6 2), (85, z_pI 6 2), (88, z_al 0 1), (89, z_ll 7 2), (91, z_pL 6 3), (94, z_al 0 1), (95, z_il 9 2), (97, z_pI 6 4), (100, z_inc 6 1), (103, z_goto 18), (106, z_inc 5 1), (109, z_goto 9), (112, z_vr)]
set_option maxRecDepth 100000 in
set_option maxHeartbeats 4000000 in
theorem zs34_0 : ∀ q ∈ ([(0, z_al 0 1), (1, z_ic (-4) 2), (3, z_pI 6 1), (6, z_ic 0 1), (7, z_is 5 2), (9, z_il 5 2), (11, z_ic 4 1), (12, z_igt 112), (15, z_ic 0 1), (16, z_is 6 2), (18, z_il 6 2), (20, z_al 1 1), (21, z_il 5 2), (23, z_cV 10 50 2 1), (26, z_ige 106), (29, z_al 0 1), (30, z_al 1 1), (31, z_al 2 1), (32, z_al 3 1), (33, z_il 5 2), (35, z_il 6 2), (37, z_il 4 2), (39, z_cV 6 37 11 6), (42, z_ls 7 2), (44, z_al 1 1), (45, z_il 5 2), (47, z_il 6 2), (49, z_cV 10 60 3 2), (52, z_is 9 2), (54, z_al 0 1), (55, z_gI 6 1), (58, z_ic (-4) 2), (60, z_ieq 76), (63, z_al 0 1), (64, z_il 5 2), (66, z_ll 7 2), (68, z_il 9 2), (70, z_cV 6 35 5 3), (73, z_ifeq 100), (76, z_al 0 1)] : List (Nat × ZIns)), zSn 34 q := List.forall_mem_cons.mpr ⟨w_aload_n (by decide +kernel : decode (zb 34) 0 = .ok (.aload_n 0, 1)) rfl, List.forall_mem_cons.mpr ⟨w_bipush (by decide +kernel : decode (zb 34) 1 = .ok (.bipush (-4), 2)) rfl, List.forall_mem_cons.mpr ⟨w_pI zw34 (j := 1) zo6 (by decide +kernel) zfk_HummingSet_Search_15 rfl rfl rfl (by decide +kernel : decode (zb 34) 3 = .ok (.putfield 15, 3)), List.forall_mem_cons.mpr ⟨w_iconst (by decide +kernel : decode (zb 34) 6 = .ok (.iconst 0, 1)) rfl, List.forall_mem_cons.mpr ⟨w_istore (by decide +kernel : decode (zb 34) 7 = .ok (.istore 5, 2)), List.forall_mem_cons.mpr ⟨w_iload (by decide +kernel : decode (zb 34) 9 = .ok (.iload 5, 2)), List.forall_mem_cons.mpr ⟨w_iconst (by decide +kernel : decode (zb 34) 11 = .ok (.iconst 4, 1)) rfl, List.forall_mem_cons.mpr ⟨w_igt (by decide +kernel : decode (zb 34) 12 = .ok (.if_icmp .gt 100, 3)) rfl, List.forall_mem_cons.mpr ⟨w_iconst (by decide +kernel : decode (zb 34) 15 = .ok (.iconst 0, 1)) rfl, List.forall_mem_cons.mpr ⟨w_istore (by decide +kernel : decode (zb 34) 16 = .ok (.istore 6, 2)), List.forall_mem_cons.mpr ⟨w_iload (by decide +kernel : decode (zb 34) 18 = .ok (.iload 6, 2)), List.forall_mem_cons.mpr ⟨w_aload_n (by decide +kernel : decode (zb 34) 20 = .ok (.aload_n 1, 1)) rfl, List.forall_mem_cons.mpr ⟨w_iload (by decide +kernel : decode (zb 34) 21 = .ok (.iload 5, 2)), List.forall_mem_cons.mpr ⟨w_cV zw34 zo10 rfl rfl zin50 zse50 zca50 (by decide +kernel) (by decide +kernel) zmk_HummingSet_Search_19 (by decide +kernel : decode (zb 34) 23 = .ok (.invokevirtual 19, 3)), List.forall_mem_cons.mpr ⟨w_ige (by decide +kernel : decode (zb 34) 26 = .ok (.if_icmp .ge 80, 3)) rfl, List.forall_mem_cons.mpr ⟨w_aload_n (by decide +kernel : decode (zb 34) 29 = .ok (.aload_n 0, 1)) rfl, List.forall_mem_cons.mpr ⟨w_aload_n (by decide +kernel : decode (zb 34) 30 = .ok (.aload_n 1, 1)) rfl, List.forall_mem_cons.mpr ⟨w_aload_n (by decide +kernel : decode (zb 34) 31 = .ok (.aload_n 2, 1)) rfl, List.forall_mem_cons.mpr ⟨w_aload_n (by decide +kernel : decode (zb 34) 32 = .ok (.aload_n 3, 1)) rfl, List.forall_mem_cons.mpr ⟨w_iload (by decide +kernel : decode (zb 34) 33 = .ok (.iload 5, 2)), List.forall_mem_cons.mpr ⟨w_iload (by decide +kernel : decode (zb 34) 35 = .ok (.iload 6, 2)), List.forall_mem_cons.mpr ⟨w_iload (by decide +kernel : decode (zb 34) 37 = .ok (.iload 4, 2)), List.forall_mem_cons.mpr ⟨w_cV zw34 zo6 rfl rfl zin37 zse37 zca37 (by decide +kernel) (by decide +kernel) zmk_HummingSet_Search_25 (by decide +kernel : decode (zb 34) 39 = .ok (.invokevirtual 25, 3)), List.forall_mem_cons.mpr ⟨w_lstore (by decide +kernel : decode (zb 34) 42 = .ok (.lstore 7, 2)), List.forall_mem_cons.mpr ⟨w_aload_n (by decide +kernel : decode (zb 34) 44 = .ok (.aload_n 1, 1)) rfl, List.forall_mem_cons.mpr ⟨w_iload (by decide +kernel : decode (zb 34) 45 = .ok (.iload 5, 2)), List.forall_mem_cons.mpr ⟨w_iload (by decide +kernel : decode (zb 34) 47 = .ok (.iload 6, 2)), List.forall_mem_cons.mpr ⟨w_cV zw34 zo10 rfl rfl zin60 zse60 zca60 (by decide +kernel) (by decide +kernel) zmk_HummingSet_Search_29 (by decide +kernel : decode (zb 34) 49 = .ok (.invokevirtual 29, 3)), List.forall_mem_cons.mpr ⟨w_istore (by decide +kernel : decode (zb 34) 52 = .ok (.istore 9, 2)), List.forall_mem_cons.mpr ⟨w_aload_n (by decide +kernel : decode (zb 34) 54 = .ok (.aload_n 0, 1)) rfl, List.forall_mem_cons.mpr ⟨w_gI zw34 (j := 1) zo6 (by decide +kernel) zfk_HummingSet_Search_15 rfl (by decide +kernel : decode (zb 34) 55 = .ok (.getfield 15, 3)), List.forall_mem_cons.mpr ⟨w_bipush (by decide +kernel : decode (zb 34) 58 = .ok (.bipush (-4), 2)) rfl, List.forall_mem_cons.mpr ⟨w_ieq (by decide +kernel : decode (zb 34) 60 = .ok (.if_icmp .eq 16, 3)) rfl, List.forall_mem_cons.mpr ⟨w_aload_n (by decide +kernel : decode (zb 34) 63 = .ok (.aload_n 0, 1)) rfl, List.forall_mem_cons.mpr ⟨w_iload (by decide +kernel : decode (zb 34) 64 = .ok (.iload 5, 2)), List.forall_mem_cons.mpr ⟨w_lload (by decide +kernel : decode (zb 34) 66 = .ok (.lload 7, 2)), List.forall_mem_cons.mpr ⟨w_iload (by decide +kernel : decode (zb 34) 68 = .ok (.iload 9, 2)), List.forall_mem_cons.mpr ⟨w_cV zw34 zo6 rfl rfl zin35 zse35 zca35 (by decide +kernel) (by decide +kernel) zmk_HummingSet_Search_33 (by decide +kernel : decode (zb 34) 70 = .ok (.invokevirtual 33, 3)), List.forall_mem_cons.mpr ⟨w_ifeq (by decide +kernel : decode (zb 34) 73 = .ok (.ifCond .eq 27, 3)) rfl, List.forall_mem_cons.mpr ⟨w_aload_n (by decide +kernel : decode (zb 34) 76 = .ok (.aload_n 0, 1)) rfl, fun _ h => absurd h List.not_mem_nil⟩⟩⟩⟩⟩⟩⟩⟩⟩⟩⟩⟩⟩⟩⟩⟩⟩⟩⟩⟩⟩⟩⟩⟩⟩⟩⟩⟩⟩⟩⟩⟩⟩⟩⟩⟩⟩⟩⟩⟩
set_option maxRecDepth 100000 in
set_option maxHeartbeats 4000000 in
theorem zs34_1 : ∀ q ∈ ([(77, z_il 5 2), (79, z_pI 6 1), (82, z_al 0 1), (83, z_il 6 2), (85, z_pI 6 2), (88, z_al 0 1), (89, z_ll 7 2), (91, z_pL 6 3), (94, z_al 0 1), (95, z_il 9 2), (97, z_pI 6 4), (100, z_inc 6 1), (103, z_goto 18), (106, z_inc 5 1), (109, z_goto 9), (112, z_vr)] : List (Nat × ZIns)), zSn 34 q := List.forall_mem_cons.mpr ⟨w_iload (by decide +kernel : decode (zb 34) 77 = .ok (.iload 5, 2)), List.forall_mem_cons.mpr ⟨w_pI zw34 (j := 1) zo6 (by decide +kernel) zfk_HummingSet_Search_15 rfl rfl rfl (by decide +kernel : decode (zb 34) 79 = .ok (.putfield 15, 3)), List.forall_mem_cons.mpr ⟨w_aload_n (by decide +kernel : decode (zb 34) 82 = .ok (.aload_n 0, 1)) rfl, List.forall_mem_cons.mpr ⟨w_iload (by decide +kernel : decode (zb 34) 83 = .ok (.iload 6, 2)), List.forall_mem_cons.mpr ⟨w_pI zw34 (j := 2) zo6 (by decide +kernel) zfk_HummingSet_Search_37 rfl rfl rfl (by decide +kernel : decode (zb 34) 85 = .ok (.putfield 37, 3)), List.forall_mem_cons.mpr ⟨w_aload_n (by decide +kernel : decode (zb 34) 88 = .ok (.aload_n 0, 1)) rfl, List.forall_mem_cons.mpr ⟨w_lload (by decide +kernel : decode (zb 34) 89 = .ok (.lload 7, 2)), List.forall_mem_cons.mpr ⟨w_pL zw34 (j := 3) zo6 (by decide +kernel) zfk_HummingSet_Search_40 rfl rfl rfl (by decide +kernel : decode (zb 34) 91 = .ok (.putfield 40, 3)), List.forall_mem_cons.mpr ⟨w_aload_n (by decide +kernel : decode (zb 34) 94 = .ok (.aload_n 0, 1)) rfl, List.forall_mem_cons.mpr ⟨w_iload (by decide +kernel : decode (zb 34) 95 = .ok (.iload 9, 2)), List.forall_mem_cons.mpr ⟨w_pI zw34 (j := 4) zo6 (by decide +kernel) zfk_HummingSet_Search_44 rfl rfl rfl (by decide +kernel : decode (zb 34) 97 = .ok (.putfield 44, 3)), List.forall_mem_cons.mpr ⟨w_iinc (by decide +kernel : decode (zb 34) 100 = .ok (.iinc 6 1, 3)) rfl, List.forall_mem_cons.mpr ⟨w_goto (by decide +kernel : decode (zb 34) 103 = .ok (.goto (-85), 3)) rfl, List.forall_mem_cons.mpr ⟨w_iinc (by decide +kernel : decode (zb 34) 106 = .ok (.iinc 5 1, 3)) rfl, List.forall_mem_cons.mpr ⟨w_goto (by decide +kernel : decode (zb 34) 109 = .ok (.goto (-100), 3)) rfl, List.forall_mem_cons.mpr ⟨w_vr (by decide +kernel : decode (zb 34) 112 = .ok (.return_, 1)) rfl, fun _ h => absurd h List.not_mem_nil⟩⟩⟩⟩⟩⟩⟩⟩⟩⟩⟩⟩⟩⟩⟩⟩
theorem zs34 : ∀ q ∈ zc34, zSn 34 q := List.forall_mem_append.mpr ⟨zs34_0, zs34_1⟩
-- HummingSet$Search.isBetter(IJI)Z
def zc35 : List (Nat × ZIns) := [(0, z_ll 2 1), (1, z_al 0 1), (2, z_gL 6 3), (5, z_lcmp), (6, z_ifeq 24), (9, z_ll 2 1), (10, z_al 0 1), (11, z_gL 6 3), (14, z_lcmp), (15, z_ifge 22), (18, z_ic 1 1), (19, z_goto 23), (22, z_ic 0 1), (23, z_zr), (24, z_il 4 2), (26, z_al 0 1), (27, z_gI 6 4), (30, z_ieq 48), (33, z_il 4 2), (35, z_al 0 1), (36, z_gI 6 4), (39, z_ige 46), (42, z_ic 1 1), (43, z_goto 47), (46, z_ic 0 1), (47, z_zr), (48, z_il 1 1), (49, z_cS 36 1 1), (52, z_al 0 1), (53, z_gI 6 1), (56, z_cS 36 1 1), (59, z_ige 66), (62, z_ic 1 1), (63, z_goto 67), (66, z_ic 0 1), (67, z_zr)]
set_option maxRecDepth 100000 in
set_option maxHeartbeats 4000000 in
theorem zs35_0 : ∀ q ∈ ([(0, z_ll 2 1), (1, z_al 0 1), (2, z_gL 6 3), (5, z_lcmp), (6, z_ifeq 24), (9, z_ll 2 1), (10, z_al 0 1), (11, z_gL 6 3), (14, z_lcmp), (15, z_ifge 22), (18, z_ic 1 1), (19, z_goto 23), (22, z_ic 0 1), (23, z_zr), (24, z_il 4 2), (26, z_al 0 1), (27, z_gI 6 4), (30, z_ieq 48), (33, z_il 4 2), (35, z_al 0 1), (36, z_gI 6 4), (39, z_ige 46), (42, z_ic 1 1), (43, z_goto 47), (46, z_ic 0 1), (47, z_zr), (48, z_il 1 1), (49, z_cS 36 1 1), (52, z_al 0 1), (53, z_gI 6 1), (56, z_cS 36 1 1), (59, z_ige 66), (62, z_ic 1 1), (63, z_goto 67), (66, z_ic 0 1), (67, z_zr)] : List (Nat × ZIns)), zSn 35 q := List.forall_mem_cons.mpr ⟨w_lload_n (by decide +kernel : decode (zb 35) 0 = .ok (.lload_n 2, 1)) rfl, List.forall_mem_cons.mpr ⟨w_aload_n (by decide +kernel : decode (zb 35) 1 = .ok (.aload_n 0, 1)) rfl, List.forall_mem_cons.mpr ⟨w_gL zw35 (j := 3) zo6 (by decide +kernel) zfk_HummingSet_Search_40 rfl (by decide +kernel : decode (zb 35) 2 = .ok (.getfield 40, 3)), List.forall_mem_cons.mpr ⟨w_lcmp (by decide +kernel : decode (zb 35) 5 = .ok (.lcmp, 1)), List.forall_mem_cons.mpr ⟨w_ifeq (by decide +kernel : decode (zb 35) 6 = .ok (.ifCond .eq 18, 3)) rfl, List.forall_mem_cons.mpr ⟨w_lload_n (by decide +kernel : decode (zb 35) 9 = .ok (.lload_n 2, 1)) rfl, List.forall_mem_cons.mpr ⟨w_aload_n (by decide +kernel : decode (zb 35) 10 = .ok (.aload_n 0, 1)) rfl, List.forall_mem_cons.mpr ⟨w_gL zw35 (j := 3) zo6 (by decide +kernel) zfk_HummingSet_Search_40 rfl (by decide +kernel : decode (zb 35) 11 = .ok (.getfield 40, 3)), List.forall_mem_cons.mpr ⟨w_lcmp (by decide +kernel : decode (zb 35) 14 = .ok (.lcmp, 1)), List.forall_mem_cons.mpr ⟨w_ifge (by decide +kernel : decode (zb 35) 15 = .ok (.ifCond .ge 7, 3)) rfl, List.forall_mem_cons.mpr ⟨w_iconst (by decide +kernel : decode (zb 35) 18 = .ok (.iconst 1, 1)) rfl, List.forall_mem_cons.mpr ⟨w_goto (by decide +kernel : decode (zb 35) 19 = .ok (.goto 4, 3)) rfl, List.forall_mem_cons.mpr ⟨w_iconst (by decide +kernel : decode (zb 35) 22 = .ok (.iconst 0, 1)) rfl, List.forall_mem_cons.mpr ⟨w_zr (by decide +kernel : decode (zb 35) 23 = .ok (.ireturn, 1)) rfl, List.forall_mem_cons.mpr ⟨w_iload (by decide +kernel : decode (zb 35) 24 = .ok (.iload 4, 2)), List.forall_mem_cons.mpr ⟨w_aload_n (by decide +kernel : decode (zb 35) 26 = .ok (.aload_n 0, 1)) rfl, List.forall_mem_cons.mpr ⟨w_gI zw35 (j := 4) zo6 (by decide +kernel) zfk_HummingSet_Search_44 rfl (by decide +kernel : decode (zb 35) 27 = .ok (.getfield 44, 3)), List.forall_mem_cons.mpr ⟨w_ieq (by decide +kernel : decode (zb 35) 30 = .ok (.if_icmp .eq 18, 3)) rfl, List.forall_mem_cons.mpr ⟨w_iload (by decide +kernel : decode (zb 35) 33 = .ok (.iload 4, 2)), List.forall_mem_cons.mpr ⟨w_aload_n (by decide +kernel : decode (zb 35) 35 = .ok (.aload_n 0, 1)) rfl, List.forall_mem_cons.mpr ⟨w_gI zw35 (j := 4) zo6 (by decide +kernel) zfk_HummingSet_Search_44 rfl (by decide +kernel : decode (zb 35) 36 = .ok (.getfield 44, 3)), List.forall_mem_cons.mpr ⟨w_ige (by decide +kernel : decode (zb 35) 39 = .ok (.if_icmp .ge 7, 3)) rfl, List.forall_mem_cons.mpr ⟨w_iconst (by decide +kernel : decode (zb 35) 42 = .ok (.iconst 1, 1)) rfl, List.forall_mem_cons.mpr ⟨w_goto (by decide +kernel : decode (zb 35) 43 = .ok (.goto 4, 3)) rfl, List.forall_mem_cons.mpr ⟨w_iconst (by decide +kernel : decode (zb 35) 46 = .ok (.iconst 0, 1)) rfl, List.forall_mem_cons.mpr ⟨w_zr (by decide +kernel : decode (zb 35) 47 = .ok (.ireturn, 1)) rfl, List.forall_mem_cons.mpr ⟨w_iload_n (by decide +kernel : decode (zb 35) 48 = .ok (.iload_n 1, 1)) rfl, List.forall_mem_cons.mpr ⟨w_cS zw35 rfl zst36 zca36 (by decide +kernel) (by decide +kernel) zmk_HummingSet_Search_47 (by decide +kernel : decode (zb 35) 49 = .ok (.invokestatic 47, 3)), List.forall_mem_cons.mpr ⟨w_aload_n (by decide +kernel : decode (zb 35) 52 = .ok (.aload_n 0, 1)) rfl, List.forall_mem_cons.mpr ⟨w_gI zw35 (j := 1) zo6 (by decide +kernel) zfk_HummingSet_Search_15 rfl (by decide +kernel : decode (zb 35) 53 = .ok (.getfield 15, 3)), List.forall_mem_cons.mpr ⟨w_cS zw35 rfl zst36 zca36 (by decide +kernel) (by decide +kernel) zmk_HummingSet_Search_47 (by decide +kernel : decode (zb 35) 56 = .ok (.invokestatic 47, 3)), List.forall_mem_cons.mpr ⟨w_ige (by decide +kernel : decode (zb 35) 59 = .ok (.if_icmp .ge 7, 3)) rfl, List.forall_mem_cons.mpr ⟨w_iconst (by decide +kernel : decode (zb 35) 62 = .ok (.iconst 1, 1)) rfl, List.forall_mem_cons.mpr ⟨w_goto (by decide +kernel : decode (zb 35) 63 = .ok (.goto 4, 3)) rfl, List.forall_mem_cons.mpr ⟨w_iconst (by decide +kernel : decode (zb 35) 66 = .ok (.iconst 0, 1)) rfl, List.forall_mem_cons.mpr ⟨w_zr (by decide +kernel : decode (zb 35) 67 = .ok (.ireturn, 1)) rfl, fun _ h => absurd h List.not_mem_nil⟩⟩⟩⟩⟩⟩⟩⟩⟩⟩⟩⟩⟩⟩⟩⟩⟩⟩⟩⟩⟩⟩⟩⟩⟩⟩⟩⟩⟩⟩⟩⟩⟩⟩⟩⟩
theorem zs35 : ∀ q ∈ zc35, zSn 35 q := zs35_0
-- HummingSet$Search.minutesOf(I)I
def zc36 : List (Nat × ZIns) := [(0, z_il 0 1), (1, z_iflt 20), (4, z_il 0 1), (5, z_gs), (8, z_alen 30), (9, z_ige 20), (12, z_gs), (15, z_il 0 1), (16, z_iald 30), (17, z_goto 21), (20, z_ic 0 1), (21, z_ir)]
set_option maxRecDepth 100000 in
set_option maxHeartbeats 4000000 in
theorem zs36_0 : ∀ q ∈ ([(0, z_il 0 1), (1, z_iflt 20), (4, z_il 0 1), (5, z_gs), (8, z_alen 30), (9, z_ige 20), (12, z_gs), (15, z_il 0 1), (16, z_iald 30), (17, z_goto 21), (20, z_ic 0 1), (21, z_ir)] : List (Nat × ZIns)), zSn 36 q := List.forall_mem_cons.mpr ⟨w_iload_n (by decide +kernel : decode (zb 36) 0 = .ok (.iload_n 0, 1)) rfl, List.forall_mem_cons.mpr ⟨w_iflt (by decide +kernel : decode (zb 36) 1 = .ok (.ifCond .lt 19, 3)) rfl, List.forall_mem_cons.mpr ⟨w_iload_n (by decide +kernel : decode (zb 36) 4 = .ok (.iload_n 0, 1)) rfl, List.forall_mem_cons.mpr ⟨w_gs zw36 zfk_HummingSet_Search_50 (by decide +kernel : decode (zb 36) 5 = .ok (.getstatic 50, 3)), List.forall_mem_cons.mpr ⟨w_xlen (by decide +kernel : decode (zb 36) 8 = .ok (.arraylength, 1)), List.forall_mem_cons.mpr ⟨w_ige (by decide +kernel : decode (zb 36) 9 = .ok (.if_icmp .ge 11, 3)) rfl, List.forall_mem_cons.mpr ⟨w_gs zw36 zfk_HummingSet_Search_50 (by decide +kernel : decode (zb 36) 12 = .ok (.getstatic 50, 3)), List.forall_mem_cons.mpr ⟨w_iload_n (by decide +kernel : decode (zb 36) 15 = .ok (.iload_n 0, 1)) rfl, List.forall_mem_cons.mpr ⟨w_xald (by decide +kernel : decode (zb 36) 16 = .ok (.iaload, 1)), List.forall_mem_cons.mpr ⟨w_goto (by decide +kernel : decode (zb 36) 17 = .ok (.goto 4, 3)) rfl, List.forall_mem_cons.mpr ⟨w_iconst (by decide +kernel : decode (zb 36) 20 = .ok (.iconst 0, 1)) rfl, List.forall_mem_cons.mpr ⟨w_ir (by decide +kernel : decode (zb 36) 21 = .ok (.ireturn, 1)) rfl, fun _ h => absurd h List.not_mem_nil⟩⟩⟩⟩⟩⟩⟩⟩⟩⟩⟩⟩
theorem zs36 : ∀ q ∈ zc36, zSn 36 q := zs36_0
-- HummingSet$Search.worstOf(LHummingSet$Wireless;LHummingSet$Bench;LHummingSet$Cases;III)J
def zc37 : List (Nat × ZIns) := [(0, z_ic 0 1), (1, z_is 7 2), (3, z_il 7 2), (5, z_ic 9 2), (7, z_igt 24), (10, z_al 0 1), (11, z_gR 6 0), (14, z_il 7 2), (16, z_lc 0 1), (17, z_last), (18, z_inc 7 1), (21, z_goto 3), (24, z_lc 0 1), (25, z_ls 7 2), (27, z_ic 0 1), (28, z_is 9 2), (30, z_il 9 2), (32, z_al 3 1), (33, z_gI 2 2), (36, z_ige 107), (39, z_al 2 1), (40, z_al 1 1), (41, z_al 3 1), (42, z_gR 2 0), (45, z_il 9 2), (47, z_iald 20), (48, z_il 4 2), (50, z_il 5 2), (52, z_il 6 2), (54, z_cV 1 9 7 5), (57, z_is 10 2), (59, z_il 10 2), (61, z_ic 0 1), (62, z_ic 9 2), (64, z_cS 100 3 3), (67, z_ifeq 101), (70, z_al 0 1), (71, z_gR 6 0), (74, z_il 10 2), (76, z_dup2), (77, z_lald), (78, z_al 3 1), (79, z_gR 2 1), (82, z_il 9 2), (84, z_lald), (85, z_ladd), (86, z_last), (87, z_ll 7 2), (89, z_al 0 1), (90, z_gR 6 0), (93, z_il 10 2), (95, z_lald), (96, z_mmaxl), (99, z_ls 7 2), (101, z_inc 9 1), (104, z_goto 30), (107, z_ll 7 2), (109, z_lr)]
set_option maxRecDepth 100000 in
set_option maxHeartbeats 4000000 in
theorem zs37_0 : ∀ q ∈ ([(0, z_ic 0 1), (1, z_is 7 2), (3, z_il 7 2), (5, z_ic 9 2), (7, z_igt 24), (10, z_al 0 1), (11, z_gR 6 0), (14, z_il 7 2), (16, z_lc 0 1), (17, z_last), (18, z_inc 7 1), (21, z_goto 3), (24, z_lc 0 1), (25, z_ls 7 2), (27, z_ic 0 1), (28, z_is 9 2), (30, z_il 9 2), (32, z_al 3 1), (33, z_gI 2 2), (36, z_ige 107), (39, z_al 2 1), (40, z_al 1 1), (41, z_al 3 1), (42, z_gR 2 0), (45, z_il 9 2), (47, z_iald 20), (48, z_il 4 2), (50, z_il 5 2), (52, z_il 6 2), (54, z_cV 1 9 7 5), (57, z_is 10 2), (59, z_il 10 2), (61, z_ic 0 1), (62, z_ic 9 2), (64, z_cS 100 3 3), (67, z_ifeq 101), (70, z_al 0 1), (71, z_gR 6 0), (74, z_il 10 2), (76, z_dup2)] : List (Nat × ZIns)), zSn 37 q := List.forall_mem_cons.mpr ⟨w_iconst (by decide +kernel : decode (zb 37) 0 = .ok (.iconst 0, 1)) rfl, List.forall_mem_cons.mpr ⟨w_istore (by decide +kernel : decode (zb 37) 1 = .ok (.istore 7, 2)), List.forall_mem_cons.mpr ⟨w_iload (by decide +kernel : decode (zb 37) 3 = .ok (.iload 7, 2)), List.forall_mem_cons.mpr ⟨w_bipush (by decide +kernel : decode (zb 37) 5 = .ok (.bipush 9, 2)) rfl, List.forall_mem_cons.mpr ⟨w_igt (by decide +kernel : decode (zb 37) 7 = .ok (.if_icmp .gt 17, 3)) rfl, List.forall_mem_cons.mpr ⟨w_aload_n (by decide +kernel : decode (zb 37) 10 = .ok (.aload_n 0, 1)) rfl, List.forall_mem_cons.mpr ⟨w_gR zw37 (j := 0) zo6 (by decide +kernel) zfk_HummingSet_Search_9 rfl (by decide +kernel : decode (zb 37) 11 = .ok (.getfield 9, 3)), List.forall_mem_cons.mpr ⟨w_iload (by decide +kernel : decode (zb 37) 14 = .ok (.iload 7, 2)), List.forall_mem_cons.mpr ⟨w_lconst (by decide +kernel : decode (zb 37) 16 = .ok (.lconst 0, 1)) rfl, List.forall_mem_cons.mpr ⟨w_last (by decide +kernel : decode (zb 37) 17 = .ok (.lastore, 1)), List.forall_mem_cons.mpr ⟨w_iinc (by decide +kernel : decode (zb 37) 18 = .ok (.iinc 7 1, 3)) rfl, List.forall_mem_cons.mpr ⟨w_goto (by decide +kernel : decode (zb 37) 21 = .ok (.goto (-18), 3)) rfl, List.forall_mem_cons.mpr ⟨w_lconst (by decide +kernel : decode (zb 37) 24 = .ok (.lconst 0, 1)) rfl, List.forall_mem_cons.mpr ⟨w_lstore (by decide +kernel : decode (zb 37) 25 = .ok (.lstore 7, 2)), List.forall_mem_cons.mpr ⟨w_iconst (by decide +kernel : decode (zb 37) 27 = .ok (.iconst 0, 1)) rfl, List.forall_mem_cons.mpr ⟨w_istore (by decide +kernel : decode (zb 37) 28 = .ok (.istore 9, 2)), List.forall_mem_cons.mpr ⟨w_iload (by decide +kernel : decode (zb 37) 30 = .ok (.iload 9, 2)), List.forall_mem_cons.mpr ⟨w_aload_n (by decide +kernel : decode (zb 37) 32 = .ok (.aload_n 3, 1)) rfl, List.forall_mem_cons.mpr ⟨w_gI zw37 (j := 2) zo2 (by decide +kernel) zfk_HummingSet_Search_54 rfl (by decide +kernel : decode (zb 37) 33 = .ok (.getfield 54, 3)), List.forall_mem_cons.mpr ⟨w_ige (by decide +kernel : decode (zb 37) 36 = .ok (.if_icmp .ge 71, 3)) rfl, List.forall_mem_cons.mpr ⟨w_aload_n (by decide +kernel : decode (zb 37) 39 = .ok (.aload_n 2, 1)) rfl, List.forall_mem_cons.mpr ⟨w_aload_n (by decide +kernel : decode (zb 37) 40 = .ok (.aload_n 1, 1)) rfl, List.forall_mem_cons.mpr ⟨w_aload_n (by decide +kernel : decode (zb 37) 41 = .ok (.aload_n 3, 1)) rfl, List.forall_mem_cons.mpr ⟨w_gR zw37 (j := 0) zo2 (by decide +kernel) zfk_HummingSet_Search_59 rfl (by decide +kernel : decode (zb 37) 42 = .ok (.getfield 59, 3)), List.forall_mem_cons.mpr ⟨w_iload (by decide +kernel : decode (zb 37) 45 = .ok (.iload 9, 2)), List.forall_mem_cons.mpr ⟨w_iald (by decide +kernel : decode (zb 37) 47 = .ok (.iaload, 1)), List.forall_mem_cons.mpr ⟨w_iload (by decide +kernel : decode (zb 37) 48 = .ok (.iload 4, 2)), List.forall_mem_cons.mpr ⟨w_iload (by decide +kernel : decode (zb 37) 50 = .ok (.iload 5, 2)), List.forall_mem_cons.mpr ⟨w_iload (by decide +kernel : decode (zb 37) 52 = .ok (.iload 6, 2)), List.forall_mem_cons.mpr ⟨w_cV zw37 zo1 rfl rfl zin9 zse9 zca9 (by decide +kernel) (by decide +kernel) zmk_HummingSet_Search_62 (by decide +kernel : decode (zb 37) 54 = .ok (.invokevirtual 62, 3)), List.forall_mem_cons.mpr ⟨w_istore (by decide +kernel : decode (zb 37) 57 = .ok (.istore 10, 2)), List.forall_mem_cons.mpr ⟨w_iload (by decide +kernel : decode (zb 37) 59 = .ok (.iload 10, 2)), List.forall_mem_cons.mpr ⟨w_iconst (by decide +kernel : decode (zb 37) 61 = .ok (.iconst 0, 1)) rfl, List.forall_mem_cons.mpr ⟨w_bipush (by decide +kernel : decode (zb 37) 62 = .ok (.bipush 9, 2)) rfl, List.forall_mem_cons.mpr ⟨w_cS zw37 rfl zst100 zca100 (by decide +kernel) (by decide +kernel) zmk_HummingSet_Search_68 (by decide +kernel : decode (zb 37) 64 = .ok (.invokestatic 68, 3)), List.forall_mem_cons.mpr ⟨w_ifeq (by decide +kernel : decode (zb 37) 67 = .ok (.ifCond .eq 34, 3)) rfl, List.forall_mem_cons.mpr ⟨w_aload_n (by decide +kernel : decode (zb 37) 70 = .ok (.aload_n 0, 1)) rfl, List.forall_mem_cons.mpr ⟨w_gR zw37 (j := 0) zo6 (by decide +kernel) zfk_HummingSet_Search_9 rfl (by decide +kernel : decode (zb 37) 71 = .ok (.getfield 9, 3)), List.forall_mem_cons.mpr ⟨w_iload (by decide +kernel : decode (zb 37) 74 = .ok (.iload 10, 2)), List.forall_mem_cons.mpr ⟨w_dup2 (by decide +kernel : decode (zb 37) 76 = .ok (.dup2, 1)), fun _ h => absurd h List.not_mem_nil⟩⟩⟩⟩⟩⟩⟩⟩⟩⟩⟩⟩⟩⟩⟩⟩⟩⟩⟩⟩⟩⟩⟩⟩⟩⟩⟩⟩⟩⟩⟩⟩⟩⟩⟩⟩⟩⟩⟩⟩
set_option maxRecDepth 100000 in
set_option maxHeartbeats 4000000 in
theorem zs37_1 : ∀ q ∈ ([(77, z_lald), (78, z_al 3 1), (79, z_gR 2 1), (82, z_il 9 2), (84, z_lald), (85, z_ladd), (86, z_last), (87, z_ll 7 2), (89, z_al 0 1), (90, z_gR 6 0), (93, z_il 10 2), (95, z_lald), (96, z_mmaxl), (99, z_ls 7 2), (101, z_inc 9 1), (104, z_goto 30), (107, z_ll 7 2), (109, z_lr)] : List (Nat × ZIns)), zSn 37 q := List.forall_mem_cons.mpr ⟨w_lald (by decide +kernel : decode (zb 37) 77 = .ok (.laload, 1)), List.forall_mem_cons.mpr ⟨w_aload_n (by decide +kernel : decode (zb 37) 78 = .ok (.aload_n 3, 1)) rfl, List.forall_mem_cons.mpr ⟨w_gR zw37 (j := 1) zo2 (by decide +kernel) zfk_HummingSet_Search_72 rfl (by decide +kernel : decode (zb 37) 79 = .ok (.getfield 72, 3)), List.forall_mem_cons.mpr ⟨w_iload (by decide +kernel : decode (zb 37) 82 = .ok (.iload 9, 2)), List.forall_mem_cons.mpr ⟨w_lald (by decide +kernel : decode (zb 37) 84 = .ok (.laload, 1)), List.forall_mem_cons.mpr ⟨w_ladd (by decide +kernel : decode (zb 37) 85 = .ok (.ladd, 1)), List.forall_mem_cons.mpr ⟨w_last (by decide +kernel : decode (zb 37) 86 = .ok (.lastore, 1)), List.forall_mem_cons.mpr ⟨w_lload (by decide +kernel : decode (zb 37) 87 = .ok (.lload 7, 2)), List.forall_mem_cons.mpr ⟨w_aload_n (by decide +kernel : decode (zb 37) 89 = .ok (.aload_n 0, 1)) rfl, List.forall_mem_cons.mpr ⟨w_gR zw37 (j := 0) zo6 (by decide +kernel) zfk_HummingSet_Search_9 rfl (by decide +kernel : decode (zb 37) 90 = .ok (.getfield 9, 3)), List.forall_mem_cons.mpr ⟨w_iload (by decide +kernel : decode (zb 37) 93 = .ok (.iload 10, 2)), List.forall_mem_cons.mpr ⟨w_lald (by decide +kernel : decode (zb 37) 95 = .ok (.laload, 1)), List.forall_mem_cons.mpr ⟨w_mmaxl zw37 zmaL_mmaxl_HummingSet_Search_75 zmaS_mmaxl zmaI zmaC_mmaxl (by decide +kernel) (by decide +kernel : decode (zb 37) 96 = .ok (.invokestatic 75, 3)), List.forall_mem_cons.mpr ⟨w_lstore (by decide +kernel : decode (zb 37) 99 = .ok (.lstore 7, 2)), List.forall_mem_cons.mpr ⟨w_iinc (by decide +kernel : decode (zb 37) 101 = .ok (.iinc 9 1, 3)) rfl, List.forall_mem_cons.mpr ⟨w_goto (by decide +kernel : decode (zb 37) 104 = .ok (.goto (-74), 3)) rfl, List.forall_mem_cons.mpr ⟨w_lload (by decide +kernel : decode (zb 37) 107 = .ok (.lload 7, 2)), List.forall_mem_cons.mpr ⟨w_lr (by decide +kernel : decode (zb 37) 109 = .ok (.lreturn, 1)) rfl, fun _ h => absurd h List.not_mem_nil⟩⟩⟩⟩⟩⟩⟩⟩⟩⟩⟩⟩⟩⟩⟩⟩⟩⟩
theorem zs37 : ∀ q ∈ zc37, zSn 37 q := List.forall_mem_append.mpr ⟨zs37_0, zs37_1⟩
-- HummingSet$Stage.<init>()V
def zc38 : List (Nat × ZIns) := []
theorem zs38 : ∀ q ∈ zc38, zSn 38 q := fun _ h => absurd h List.not_mem_nil
-- HummingSet$Text.<init>()V
def zc39 : List (Nat × ZIns) := []
theorem zs39 : ∀ q ∈ zc39, zSn 39 q := fun _ h => absurd h List.not_mem_nil
-- HummingSet$Text.hasRoom(I)Z
def zc40 : List (Nat × ZIns) := [(0, z_il 1 1), (1, z_ic 400 3), (4, z_al 0 1), (5, z_gI 8 1), (8, z_isub), (9, z_igt 16), (12, z_ic 1 1), (13, z_goto 17), (16, z_ic 0 1), (17, z_zr)]
set_option maxRecDepth 100000 in
set_option maxHeartbeats 4000000 in
theorem zs40_0 : ∀ q ∈ ([(0, z_il 1 1), (1, z_ic 400 3), (4, z_al 0 1), (5, z_gI 8 1), (8, z_isub), (9, z_igt 16), (12, z_ic 1 1), (13, z_goto 17), (16, z_ic 0 1), (17, z_zr)] : List (Nat × ZIns)), zSn 40 q := List.forall_mem_cons.mpr ⟨w_iload_n (by decide +kernel : decode (zb 40) 0 = .ok (.iload_n 1, 1)) rfl, List.forall_mem_cons.mpr ⟨w_sipush (by decide +kernel : decode (zb 40) 1 = .ok (.sipush 400, 3)) rfl, List.forall_mem_cons.mpr ⟨w_aload_n (by decide +kernel : decode (zb 40) 4 = .ok (.aload_n 0, 1)) rfl, List.forall_mem_cons.mpr ⟨w_gI zw40 (j := 1) zo8 (by decide +kernel) zfk_HummingSet_Text_15 rfl (by decide +kernel : decode (zb 40) 5 = .ok (.getfield 15, 3)), List.forall_mem_cons.mpr ⟨w_isub (by decide +kernel : decode (zb 40) 8 = .ok (.isub, 1)), List.forall_mem_cons.mpr ⟨w_igt (by decide +kernel : decode (zb 40) 9 = .ok (.if_icmp .gt 7, 3)) rfl, List.forall_mem_cons.mpr ⟨w_iconst (by decide +kernel : decode (zb 40) 12 = .ok (.iconst 1, 1)) rfl, List.forall_mem_cons.mpr ⟨w_goto (by decide +kernel : decode (zb 40) 13 = .ok (.goto 4, 3)) rfl, List.forall_mem_cons.mpr ⟨w_iconst (by decide +kernel : decode (zb 40) 16 = .ok (.iconst 0, 1)) rfl, List.forall_mem_cons.mpr ⟨w_zr (by decide +kernel : decode (zb 40) 17 = .ok (.ireturn, 1)) rfl, fun _ h => absurd h List.not_mem_nil⟩⟩⟩⟩⟩⟩⟩⟩⟩⟩
theorem zs40 : ∀ q ∈ zc40, zSn 40 q := zs40_0
-- HummingSet$Text.append(IJ)V
def zc41 : List (Nat × ZIns) := [(0, z_il 1 1), (1, z_ic 1 1), (2, z_isub), (3, z_is 4 2), (5, z_il 4 2), (7, z_iflt 54), (10, z_al 0 1), (11, z_gI 8 1), (14, z_ic 400 3), (17, z_ige 54), (20, z_al 0 1), (21, z_gR 8 0), (24, z_al 0 1), (25, z_gI 8 1), (28, z_ll 2 1), (29, z_ic 8 2), (31, z_il 4 2), (33, z_imul), (34, z_lushr), (35, z_l2i), (36, z_i2b), (37, z_bast), (38, z_al 0 1), (39, z_dup), (40, z_gI 8 1), (43, z_ic 1 1), (44, z_iadd), (45, z_pI 8 1), (48, z_inc 4 (-1)), (51, z_goto 5), (54, z_vr)]
set_option maxRecDepth 100000 in
set_option maxHeartbeats 4000000 in
theorem zs41_0 : ∀ q ∈ ([(0, z_il 1 1), (1, z_ic 1 1), (2, z_isub), (3, z_is 4 2), (5, z_il 4 2), (7, z_iflt 54), (10, z_al 0 1), (11, z_gI 8 1), (14, z_ic 400 3), (17, z_ige 54), (20, z_al 0 1), (21, z_gR 8 0), (24, z_al 0 1), (25, z_gI 8 1), (28, z_ll 2 1), (29, z_ic 8 2), (31, z_il 4 2), (33, z_imul), (34, z_lushr), (35, z_l2i), (36, z_i2b), (37, z_bast), (38, z_al 0 1), (39, z_dup), (40, z_gI 8 1), (43, z_ic 1 1), (44, z_iadd), (45, z_pI 8 1), (48, z_inc 4 (-1)), (51, z_goto 5), (54, z_vr)] : List (Nat × ZIns)), zSn 41 q := List.forall_mem_cons.mpr ⟨w_iload_n (by decide +kernel : decode (zb 41) 0 = .ok (.iload_n 1, 1)) rfl, List.forall_mem_cons.mpr ⟨w_iconst (by decide +kernel : decode (zb 41) 1 = .ok (.iconst 1, 1)) rfl, List.forall_mem_cons.mpr ⟨w_isub (by decide +kernel : decode (zb 41) 2 = .ok (.isub, 1)), List.forall_mem_cons.mpr ⟨w_istore (by decide +kernel : decode (zb 41) 3 = .ok (.istore 4, 2)), List.forall_mem_cons.mpr ⟨w_iload (by decide +kernel : decode (zb 41) 5 = .ok (.iload 4, 2)), List.forall_mem_cons.mpr ⟨w_iflt (by decide +kernel : decode (zb 41) 7 = .ok (.ifCond .lt 47, 3)) rfl, List.forall_mem_cons.mpr ⟨w_aload_n (by decide +kernel : decode (zb 41) 10 = .ok (.aload_n 0, 1)) rfl, List.forall_mem_cons.mpr ⟨w_gI zw41 (j := 1) zo8 (by decide +kernel) zfk_HummingSet_Text_15 rfl (by decide +kernel : decode (zb 41) 11 = .ok (.getfield 15, 3)), List.forall_mem_cons.mpr ⟨w_sipush (by decide +kernel : decode (zb 41) 14 = .ok (.sipush 400, 3)) rfl, List.forall_mem_cons.mpr ⟨w_ige (by decide +kernel : decode (zb 41) 17 = .ok (.if_icmp .ge 37, 3)) rfl, List.forall_mem_cons.mpr ⟨w_aload_n (by decide +kernel : decode (zb 41) 20 = .ok (.aload_n 0, 1)) rfl, List.forall_mem_cons.mpr ⟨w_gR zw41 (j := 0) zo8 (by decide +kernel) zfk_HummingSet_Text_9 rfl (by decide +kernel : decode (zb 41) 21 = .ok (.getfield 9, 3)), List.forall_mem_cons.mpr ⟨w_aload_n (by decide +kernel : decode (zb 41) 24 = .ok (.aload_n 0, 1)) rfl, List.forall_mem_cons.mpr ⟨w_gI zw41 (j := 1) zo8 (by decide +kernel) zfk_HummingSet_Text_15 rfl (by decide +kernel : decode (zb 41) 25 = .ok (.getfield 15, 3)), List.forall_mem_cons.mpr ⟨w_lload_n (by decide +kernel : decode (zb 41) 28 = .ok (.lload_n 2, 1)) rfl, List.forall_mem_cons.mpr ⟨w_bipush (by decide +kernel : decode (zb 41) 29 = .ok (.bipush 8, 2)) rfl, List.forall_mem_cons.mpr ⟨w_iload (by decide +kernel : decode (zb 41) 31 = .ok (.iload 4, 2)), List.forall_mem_cons.mpr ⟨w_imul (by decide +kernel : decode (zb 41) 33 = .ok (.imul, 1)), List.forall_mem_cons.mpr ⟨w_lushr (by decide +kernel : decode (zb 41) 34 = .ok (.lushr, 1)), List.forall_mem_cons.mpr ⟨w_l2i (by decide +kernel : decode (zb 41) 35 = .ok (.l2i, 1)), List.forall_mem_cons.mpr ⟨w_i2b (by decide +kernel : decode (zb 41) 36 = .ok (.i2b, 1)), List.forall_mem_cons.mpr ⟨w_bast (by decide +kernel : decode (zb 41) 37 = .ok (.bastore, 1)), List.forall_mem_cons.mpr ⟨w_aload_n (by decide +kernel : decode (zb 41) 38 = .ok (.aload_n 0, 1)) rfl, List.forall_mem_cons.mpr ⟨w_dup (by decide +kernel : decode (zb 41) 39 = .ok (.dup, 1)), List.forall_mem_cons.mpr ⟨w_gI zw41 (j := 1) zo8 (by decide +kernel) zfk_HummingSet_Text_15 rfl (by decide +kernel : decode (zb 41) 40 = .ok (.getfield 15, 3)), List.forall_mem_cons.mpr ⟨w_iconst (by decide +kernel : decode (zb 41) 43 = .ok (.iconst 1, 1)) rfl, List.forall_mem_cons.mpr ⟨w_iadd (by decide +kernel : decode (zb 41) 44 = .ok (.iadd, 1)), List.forall_mem_cons.mpr ⟨w_pI zw41 (j := 1) zo8 (by decide +kernel) zfk_HummingSet_Text_15 rfl rfl rfl (by decide +kernel : decode (zb 41) 45 = .ok (.putfield 15, 3)), List.forall_mem_cons.mpr ⟨w_iinc (by decide +kernel : decode (zb 41) 48 = .ok (.iinc 4 (-1), 3)) rfl, List.forall_mem_cons.mpr ⟨w_goto (by decide +kernel : decode (zb 41) 51 = .ok (.goto (-46), 3)) rfl, List.forall_mem_cons.mpr ⟨w_vr (by decide +kernel : decode (zb 41) 54 = .ok (.return_, 1)) rfl, fun _ h => absurd h List.not_mem_nil⟩⟩⟩⟩⟩⟩⟩⟩⟩⟩⟩⟩⟩⟩⟩⟩⟩⟩⟩⟩⟩⟩⟩⟩⟩⟩⟩⟩⟩⟩⟩
theorem zs41 : ∀ q ∈ zc41, zSn 41 q := zs41_0
-- HummingSet$Text.at(I)I
def zc42 : List (Nat × ZIns) := [(0, z_il 1 1), (1, z_iflt 25), (4, z_il 1 1), (5, z_al 0 1), (6, z_gI 8 1), (9, z_ige 25), (12, z_al 0 1), (13, z_gR 8 0), (16, z_il 1 1), (17, z_iald 22), (18, z_ic 255 3), (21, z_iand), (22, z_goto 26), (25, z_ic (-1) 1), (26, z_ir)]
set_option maxRecDepth 100000 in
set_option maxHeartbeats 4000000 in
theorem zs42_0 : ∀ q ∈ ([(0, z_il 1 1), (1, z_iflt 25), (4, z_il 1 1), (5, z_al 0 1), (6, z_gI 8 1), (9, z_ige 25), (12, z_al 0 1), (13, z_gR 8 0), (16, z_il 1 1), (17, z_iald 22), (18, z_ic 255 3), (21, z_iand), (22, z_goto 26), (25, z_ic (-1) 1), (26, z_ir)] : List (Nat × ZIns)), zSn 42 q := List.forall_mem_cons.mpr ⟨w_iload_n (by decide +kernel : decode (zb 42) 0 = .ok (.iload_n 1, 1)) rfl, List.forall_mem_cons.mpr ⟨w_iflt (by decide +kernel : decode (zb 42) 1 = .ok (.ifCond .lt 24, 3)) rfl, List.forall_mem_cons.mpr ⟨w_iload_n (by decide +kernel : decode (zb 42) 4 = .ok (.iload_n 1, 1)) rfl, List.forall_mem_cons.mpr ⟨w_aload_n (by decide +kernel : decode (zb 42) 5 = .ok (.aload_n 0, 1)) rfl, List.forall_mem_cons.mpr ⟨w_gI zw42 (j := 1) zo8 (by decide +kernel) zfk_HummingSet_Text_15 rfl (by decide +kernel : decode (zb 42) 6 = .ok (.getfield 15, 3)), List.forall_mem_cons.mpr ⟨w_ige (by decide +kernel : decode (zb 42) 9 = .ok (.if_icmp .ge 16, 3)) rfl, List.forall_mem_cons.mpr ⟨w_aload_n (by decide +kernel : decode (zb 42) 12 = .ok (.aload_n 0, 1)) rfl, List.forall_mem_cons.mpr ⟨w_gR zw42 (j := 0) zo8 (by decide +kernel) zfk_HummingSet_Text_9 rfl (by decide +kernel : decode (zb 42) 13 = .ok (.getfield 9, 3)), List.forall_mem_cons.mpr ⟨w_iload_n (by decide +kernel : decode (zb 42) 16 = .ok (.iload_n 1, 1)) rfl, List.forall_mem_cons.mpr ⟨w_bald (by decide +kernel : decode (zb 42) 17 = .ok (.baload, 1)), List.forall_mem_cons.mpr ⟨w_sipush (by decide +kernel : decode (zb 42) 18 = .ok (.sipush 255, 3)) rfl, List.forall_mem_cons.mpr ⟨w_iand (by decide +kernel : decode (zb 42) 21 = .ok (.iand, 1)), List.forall_mem_cons.mpr ⟨w_goto (by decide +kernel : decode (zb 42) 22 = .ok (.goto 4, 3)) rfl, List.forall_mem_cons.mpr ⟨w_iconst (by decide +kernel : decode (zb 42) 25 = .ok (.iconst (-1), 1)) rfl, List.forall_mem_cons.mpr ⟨w_ir (by decide +kernel : decode (zb 42) 26 = .ok (.ireturn, 1)) rfl, fun _ h => absurd h List.not_mem_nil⟩⟩⟩⟩⟩⟩⟩⟩⟩⟩⟩⟩⟩⟩⟩
theorem zs42 : ∀ q ∈ zc42, zSn 42 q := zs42_0
-- HummingSet$Way.<init>()V
def zc43 : List (Nat × ZIns) := []
theorem zs43 : ∀ q ∈ zc43, zSn 43 q := fun _ h => absurd h List.not_mem_nil
-- HummingSet$Wireless.<init>()V
def zc44 : List (Nat × ZIns) := []
theorem zs44 : ∀ q ∈ zc44, zSn 44 q := fun _ h => absurd h List.not_mem_nil
-- HummingSet$Wireless.clear()V
def zc45 : List (Nat × ZIns) := [(0, z_al 0 1), (1, z_ic 0 1), (2, z_pI 10 5), (5, z_al 0 1), (6, z_ic 0 1), (7, z_pI 10 6), (10, z_al 0 1), (11, z_ic 0 1), (12, z_pI 10 7), (15, z_al 0 1), (16, z_ic 0 1), (17, z_pI 10 8), (20, z_al 0 1), (21, z_ic 0 1), (22, z_pI 10 9), (25, z_ic 0 1), (26, z_is 1 1), (27, z_il 1 1), (28, z_ic 3 1), (29, z_ige 46), (32, z_al 0 1), (33, z_gR 10 3), (36, z_il 1 1), (37, z_ic 20 2), (39, z_iast), (40, z_inc 1 1), (43, z_goto 27), (46, z_ic 0 1), (47, z_is 1 1), (48, z_il 1 1), (49, z_ic 5 1), (50, z_ige 66), (53, z_al 0 1), (54, z_gR 10 4), (57, z_il 1 1), (58, z_ic 5 1), (59, z_iast), (60, z_inc 1 1), (63, z_goto 48), (66, z_vr)]
set_option maxRecDepth 100000 in
set_option maxHeartbeats 4000000 in
theorem zs45_0 : ∀ q ∈ ([(0, z_al 0 1), (1, z_ic 0 1), (2, z_pI 10 5), (5, z_al 0 1), (6, z_ic 0 1), (7, z_pI 10 6), (10, z_al 0 1), (11, z_ic 0 1), (12, z_pI 10 7), (15, z_al 0 1), (16, z_ic 0 1), (17, z_pI 10 8), (20, z_al 0 1), (21, z_ic 0 1), (22, z_pI 10 9), (25, z_ic 0 1), (26, z_is 1 1), (27, z_il 1 1), (28, z_ic 3 1), (29, z_ige 46), (32, z_al 0 1), (33, z_gR 10 3), (36, z_il 1 1), (37, z_ic 20 2), (39, z_iast), (40, z_inc 1 1), (43, z_goto 27), (46, z_ic 0 1), (47, z_is 1 1), (48, z_il 1 1), (49, z_ic 5 1), (50, z_ige 66), (53, z_al 0 1), (54, z_gR 10 4), (57, z_il 1 1), (58, z_ic 5 1), (59, z_iast), (60, z_inc 1 1), (63, z_goto 48), (66, z_vr)] : List (Nat × ZIns)), zSn 45 q := List.forall_mem_cons.mpr ⟨w_aload_n (by decide +kernel : decode (zb 45) 0 = .ok (.aload_n 0, 1)) rfl, List.forall_mem_cons.mpr ⟨w_iconst (by decide +kernel : decode (zb 45) 1 = .ok (.iconst 0, 1)) rfl, List.forall_mem_cons.mpr ⟨w_pI zw45 (j := 5) zo10 (by decide +kernel) zfk_HummingSet_Wireless_42 rfl rfl rfl (by decide +kernel : decode (zb 45) 2 = .ok (.putfield 42, 3)), List.forall_mem_cons.mpr ⟨w_aload_n (by decide +kernel : decode (zb 45) 5 = .ok (.aload_n 0, 1)) rfl, List.forall_mem_cons.mpr ⟨w_iconst (by decide +kernel : decode (zb 45) 6 = .ok (.iconst 0, 1)) rfl, List.forall_mem_cons.mpr ⟨w_pI zw45 (j := 6) zo10 (by decide +kernel) zfk_HummingSet_Wireless_46 rfl rfl rfl (by decide +kernel : decode (zb 45) 7 = .ok (.putfield 46, 3)), List.forall_mem_cons.mpr ⟨w_aload_n (by decide +kernel : decode (zb 45) 10 = .ok (.aload_n 0, 1)) rfl, List.forall_mem_cons.mpr ⟨w_iconst (by decide +kernel : decode (zb 45) 11 = .ok (.iconst 0, 1)) rfl, List.forall_mem_cons.mpr ⟨w_pI zw45 (j := 7) zo10 (by decide +kernel) zfk_HummingSet_Wireless_49 rfl rfl rfl (by decide +kernel : decode (zb 45) 12 = .ok (.putfield 49, 3)), List.forall_mem_cons.mpr ⟨w_aload_n (by decide +kernel : decode (zb 45) 15 = .ok (.aload_n 0, 1)) rfl, List.forall_mem_cons.mpr ⟨w_iconst (by decide +kernel : decode (zb 45) 16 = .ok (.iconst 0, 1)) rfl, List.forall_mem_cons.mpr ⟨w_pI zw45 (j := 8) zo10 (by decide +kernel) zfk_HummingSet_Wireless_52 rfl rfl rfl (by decide +kernel : decode (zb 45) 17 = .ok (.putfield 52, 3)), List.forall_mem_cons.mpr ⟨w_aload_n (by decide +kernel : decode (zb 45) 20 = .ok (.aload_n 0, 1)) rfl, List.forall_mem_cons.mpr ⟨w_iconst (by decide +kernel : decode (zb 45) 21 = .ok (.iconst 0, 1)) rfl, List.forall_mem_cons.mpr ⟨w_pI zw45 (j := 9) zo10 (by decide +kernel) zfk_HummingSet_Wireless_55 rfl rfl rfl (by decide +kernel : decode (zb 45) 22 = .ok (.putfield 55, 3)), List.forall_mem_cons.mpr ⟨w_iconst (by decide +kernel : decode (zb 45) 25 = .ok (.iconst 0, 1)) rfl, List.forall_mem_cons.mpr ⟨w_istore_n (by decide +kernel : decode (zb 45) 26 = .ok (.istore_n 1, 1)) rfl, List.forall_mem_cons.mpr ⟨w_iload_n (by decide +kernel : decode (zb 45) 27 = .ok (.iload_n 1, 1)) rfl, List.forall_mem_cons.mpr ⟨w_iconst (by decide +kernel : decode (zb 45) 28 = .ok (.iconst 3, 1)) rfl, List.forall_mem_cons.mpr ⟨w_ige (by decide +kernel : decode (zb 45) 29 = .ok (.if_icmp .ge 17, 3)) rfl, List.forall_mem_cons.mpr ⟨w_aload_n (by decide +kernel : decode (zb 45) 32 = .ok (.aload_n 0, 1)) rfl, List.forall_mem_cons.mpr ⟨w_gR zw45 (j := 3) zo10 (by decide +kernel) zfk_HummingSet_Wireless_29 rfl (by decide +kernel : decode (zb 45) 33 = .ok (.getfield 29, 3)), List.forall_mem_cons.mpr ⟨w_iload_n (by decide +kernel : decode (zb 45) 36 = .ok (.iload_n 1, 1)) rfl, List.forall_mem_cons.mpr ⟨w_bipush (by decide +kernel : decode (zb 45) 37 = .ok (.bipush 20, 2)) rfl, List.forall_mem_cons.mpr ⟨w_iast (by decide +kernel : decode (zb 45) 39 = .ok (.iastore, 1)), List.forall_mem_cons.mpr ⟨w_iinc (by decide +kernel : decode (zb 45) 40 = .ok (.iinc 1 1, 3)) rfl, List.forall_mem_cons.mpr ⟨w_goto (by decide +kernel : decode (zb 45) 43 = .ok (.goto (-16), 3)) rfl, List.forall_mem_cons.mpr ⟨w_iconst (by decide +kernel : decode (zb 45) 46 = .ok (.iconst 0, 1)) rfl, List.forall_mem_cons.mpr ⟨w_istore_n (by decide +kernel : decode (zb 45) 47 = .ok (.istore_n 1, 1)) rfl, List.forall_mem_cons.mpr ⟨w_iload_n (by decide +kernel : decode (zb 45) 48 = .ok (.iload_n 1, 1)) rfl, List.forall_mem_cons.mpr ⟨w_iconst (by decide +kernel : decode (zb 45) 49 = .ok (.iconst 5, 1)) rfl, List.forall_mem_cons.mpr ⟨w_ige (by decide +kernel : decode (zb 45) 50 = .ok (.if_icmp .ge 16, 3)) rfl, List.forall_mem_cons.mpr ⟨w_aload_n (by decide +kernel : decode (zb 45) 53 = .ok (.aload_n 0, 1)) rfl, List.forall_mem_cons.mpr ⟨w_gR zw45 (j := 4) zo10 (by decide +kernel) zfk_HummingSet_Wireless_33 rfl (by decide +kernel : decode (zb 45) 54 = .ok (.getfield 33, 3)), List.forall_mem_cons.mpr ⟨w_iload_n (by decide +kernel : decode (zb 45) 57 = .ok (.iload_n 1, 1)) rfl, List.forall_mem_cons.mpr ⟨w_iconst (by decide +kernel : decode (zb 45) 58 = .ok (.iconst 5, 1)) rfl, List.forall_mem_cons.mpr ⟨w_iast (by decide +kernel : decode (zb 45) 59 = .ok (.iastore, 1)), List.forall_mem_cons.mpr ⟨w_iinc (by decide +kernel : decode (zb 45) 60 = .ok (.iinc 1 1, 3)) rfl, List.forall_mem_cons.mpr ⟨w_goto (by decide +kernel : decode (zb 45) 63 = .ok (.goto (-15), 3)) rfl, List.forall_mem_cons.mpr ⟨w_vr (by decide +kernel : decode (zb 45) 66 = .ok (.return_, 1)) rfl, fun _ h => absurd h List.not_mem_nil⟩⟩⟩⟩⟩⟩⟩⟩⟩⟩⟩⟩⟩⟩⟩⟩⟩⟩⟩⟩⟩⟩⟩⟩⟩⟩⟩⟩⟩⟩⟩⟩⟩⟩⟩⟩⟩⟩⟩⟩
theorem zs45 : ∀ q ∈ zc45, zSn 45 q := zs45_0
-- HummingSet$Wireless.hasStage(I)Z
def zc46 : List (Nat × ZIns) := [(0, z_il 1 1), (1, z_iflt 16), (4, z_il 1 1), (5, z_al 0 1), (6, z_gI 10 5), (9, z_ige 16), (12, z_ic 1 1), (13, z_goto 17), (16, z_ic 0 1), (17, z_zr)]
set_option maxRecDepth 100000 in
set_option maxHeartbeats 4000000 in
theorem zs46_0 : ∀ q ∈ ([(0, z_il 1 1), (1, z_iflt 16), (4, z_il 1 1), (5, z_al 0 1), (6, z_gI 10 5), (9, z_ige 16), (12, z_ic 1 1), (13, z_goto 17), (16, z_ic 0 1), (17, z_zr)] : List (Nat × ZIns)), zSn 46 q := List.forall_mem_cons.mpr ⟨w_iload_n (by decide +kernel : decode (zb 46) 0 = .ok (.iload_n 1, 1)) rfl, List.forall_mem_cons.mpr ⟨w_iflt (by decide +kernel : decode (zb 46) 1 = .ok (.ifCond .lt 15, 3)) rfl, List.forall_mem_cons.mpr ⟨w_iload_n (by decide +kernel : decode (zb 46) 4 = .ok (.iload_n 1, 1)) rfl, List.forall_mem_cons.mpr ⟨w_aload_n (by decide +kernel : decode (zb 46) 5 = .ok (.aload_n 0, 1)) rfl, List.forall_mem_cons.mpr ⟨w_gI zw46 (j := 5) zo10 (by decide +kernel) zfk_HummingSet_Wireless_42 rfl (by decide +kernel : decode (zb 46) 6 = .ok (.getfield 42, 3)), List.forall_mem_cons.mpr ⟨w_ige (by decide +kernel : decode (zb 46) 9 = .ok (.if_icmp .ge 7, 3)) rfl, List.forall_mem_cons.mpr ⟨w_iconst (by decide +kernel : decode (zb 46) 12 = .ok (.iconst 1, 1)) rfl, List.forall_mem_cons.mpr ⟨w_goto (by decide +kernel : decode (zb 46) 13 = .ok (.goto 4, 3)) rfl, List.forall_mem_cons.mpr ⟨w_iconst (by decide +kernel : decode (zb 46) 16 = .ok (.iconst 0, 1)) rfl, List.forall_mem_cons.mpr ⟨w_zr (by decide +kernel : decode (zb 46) 17 = .ok (.ireturn, 1)) rfl, fun _ h => absurd h List.not_mem_nil⟩⟩⟩⟩⟩⟩⟩⟩⟩⟩
theorem zs46 : ∀ q ∈ zc46, zSn 46 q := zs46_0
-- HummingSet$Wireless.hasPart(I)Z
def zc47 : List (Nat × ZIns) := [(0, z_il 1 1), (1, z_iflt 16), (4, z_il 1 1), (5, z_al 0 1), (6, z_gI 10 6), (9, z_ige 16), (12, z_ic 1 1), (13, z_goto 17), (16, z_ic 0 1), (17, z_zr)]
set_option maxRecDepth 100000 in
set_option maxHeartbeats 4000000 in
theorem zs47_0 : ∀ q ∈ ([(0, z_il 1 1), (1, z_iflt 16), (4, z_il 1 1), (5, z_al 0 1), (6, z_gI 10 6), (9, z_ige 16), (12, z_ic 1 1), (13, z_goto 17), (16, z_ic 0 1), (17, z_zr)] : List (Nat × ZIns)), zSn 47 q := List.forall_mem_cons.mpr ⟨w_iload_n (by decide +kernel : decode (zb 47) 0 = .ok (.iload_n 1, 1)) rfl, List.forall_mem_cons.mpr ⟨w_iflt (by decide +kernel : decode (zb 47) 1 = .ok (.ifCond .lt 15, 3)) rfl, List.forall_mem_cons.mpr ⟨w_iload_n (by decide +kernel : decode (zb 47) 4 = .ok (.iload_n 1, 1)) rfl, List.forall_mem_cons.mpr ⟨w_aload_n (by decide +kernel : decode (zb 47) 5 = .ok (.aload_n 0, 1)) rfl, List.forall_mem_cons.mpr ⟨w_gI zw47 (j := 6) zo10 (by decide +kernel) zfk_HummingSet_Wireless_46 rfl (by decide +kernel : decode (zb 47) 6 = .ok (.getfield 46, 3)), List.forall_mem_cons.mpr ⟨w_ige (by decide +kernel : decode (zb 47) 9 = .ok (.if_icmp .ge 7, 3)) rfl, List.forall_mem_cons.mpr ⟨w_iconst (by decide +kernel : decode (zb 47) 12 = .ok (.iconst 1, 1)) rfl, List.forall_mem_cons.mpr ⟨w_goto (by decide +kernel : decode (zb 47) 13 = .ok (.goto 4, 3)) rfl, List.forall_mem_cons.mpr ⟨w_iconst (by decide +kernel : decode (zb 47) 16 = .ok (.iconst 0, 1)) rfl, List.forall_mem_cons.mpr ⟨w_zr (by decide +kernel : decode (zb 47) 17 = .ok (.ireturn, 1)) rfl, fun _ h => absurd h List.not_mem_nil⟩⟩⟩⟩⟩⟩⟩⟩⟩⟩
theorem zs47 : ∀ q ∈ zc47, zSn 47 q := zs47_0
-- HummingSet$Wireless.hasState(I)Z
def zc48 : List (Nat × ZIns) := [(0, z_il 1 1), (1, z_iflt 18), (4, z_il 1 1), (5, z_ic 1 1), (6, z_al 0 1), (7, z_gI 10 6), (10, z_ishl), (11, z_ige 18), (14, z_ic 1 1), (15, z_goto 19), (18, z_ic 0 1), (19, z_zr)]
set_option maxRecDepth 100000 in
set_option maxHeartbeats 4000000 in
theorem zs48_0 : ∀ q ∈ ([(0, z_il 1 1), (1, z_iflt 18), (4, z_il 1 1), (5, z_ic 1 1), (6, z_al 0 1), (7, z_gI 10 6), (10, z_ishl), (11, z_ige 18), (14, z_ic 1 1), (15, z_goto 19), (18, z_ic 0 1), (19, z_zr)] : List (Nat × ZIns)), zSn 48 q := List.forall_mem_cons.mpr ⟨w_iload_n (by decide +kernel : decode (zb 48) 0 = .ok (.iload_n 1, 1)) rfl, List.forall_mem_cons.mpr ⟨w_iflt (by decide +kernel : decode (zb 48) 1 = .ok (.ifCond .lt 17, 3)) rfl, List.forall_mem_cons.mpr ⟨w_iload_n (by decide +kernel : decode (zb 48) 4 = .ok (.iload_n 1, 1)) rfl, List.forall_mem_cons.mpr ⟨w_iconst (by decide +kernel : decode (zb 48) 5 = .ok (.iconst 1, 1)) rfl, List.forall_mem_cons.mpr ⟨w_aload_n (by decide +kernel : decode (zb 48) 6 = .ok (.aload_n 0, 1)) rfl, List.forall_mem_cons.mpr ⟨w_gI zw48 (j := 6) zo10 (by decide +kernel) zfk_HummingSet_Wireless_46 rfl (by decide +kernel : decode (zb 48) 7 = .ok (.getfield 46, 3)), List.forall_mem_cons.mpr ⟨w_ishl (by decide +kernel : decode (zb 48) 10 = .ok (.ishl, 1)), List.forall_mem_cons.mpr ⟨w_ige (by decide +kernel : decode (zb 48) 11 = .ok (.if_icmp .ge 7, 3)) rfl, List.forall_mem_cons.mpr ⟨w_iconst (by decide +kernel : decode (zb 48) 14 = .ok (.iconst 1, 1)) rfl, List.forall_mem_cons.mpr ⟨w_goto (by decide +kernel : decode (zb 48) 15 = .ok (.goto 4, 3)) rfl, List.forall_mem_cons.mpr ⟨w_iconst (by decide +kernel : decode (zb 48) 18 = .ok (.iconst 0, 1)) rfl, List.forall_mem_cons.mpr ⟨w_zr (by decide +kernel : decode (zb 48) 19 = .ok (.ireturn, 1)) rfl, fun _ h => absurd h List.not_mem_nil⟩⟩⟩⟩⟩⟩⟩⟩⟩⟩⟩⟩
theorem zs48 : ∀ q ∈ zc48, zSn 48 q := zs48_0
-- HummingSet$Wireless.hasAsk(II)Z
def zc49 : List (Nat × ZIns) := [(0, z_il 1 1), (1, z_ic 0 1), (2, z_ic 4 1), (3, z_cS 100 3 3), (6, z_ifeq 26), (9, z_il 2 1), (10, z_iflt 26), (13, z_il 2 1), (14, z_al 0 1), (15, z_il 1 1), (16, z_cV 10 50 2 1), (19, z_ige 26), (22, z_ic 1 1), (23, z_goto 27), (26, z_ic 0 1), (27, z_zr)]
set_option maxRecDepth 100000 in
set_option maxHeartbeats 4000000 in
theorem zs49_0 : ∀ q ∈ ([(0, z_il 1 1), (1, z_ic 0 1), (2, z_ic 4 1), (3, z_cS 100 3 3), (6, z_ifeq 26), (9, z_il 2 1), (10, z_iflt 26), (13, z_il 2 1), (14, z_al 0 1), (15, z_il 1 1), (16, z_cV 10 50 2 1), (19, z_ige 26), (22, z_ic 1 1), (23, z_goto 27), (26, z_ic 0 1), (27, z_zr)] : List (Nat × ZIns)), zSn 49 q := List.forall_mem_cons.mpr ⟨w_iload_n (by decide +kernel : decode (zb 49) 0 = .ok (.iload_n 1, 1)) rfl, List.forall_mem_cons.mpr ⟨w_iconst (by decide +kernel : decode (zb 49) 1 = .ok (.iconst 0, 1)) rfl, List.forall_mem_cons.mpr ⟨w_iconst (by decide +kernel : decode (zb 49) 2 = .ok (.iconst 4, 1)) rfl, List.forall_mem_cons.mpr ⟨w_cS zw49 rfl zst100 zca100 (by decide +kernel) (by decide +kernel) zmk_HummingSet_Wireless_58 (by decide +kernel : decode (zb 49) 3 = .ok (.invokestatic 58, 3)), List.forall_mem_cons.mpr ⟨w_ifeq (by decide +kernel : decode (zb 49) 6 = .ok (.ifCond .eq 20, 3)) rfl, List.forall_mem_cons.mpr ⟨w_iload_n (by decide +kernel : decode (zb 49) 9 = .ok (.iload_n 2, 1)) rfl, List.forall_mem_cons.mpr ⟨w_iflt (by decide +kernel : decode (zb 49) 10 = .ok (.ifCond .lt 16, 3)) rfl, List.forall_mem_cons.mpr ⟨w_iload_n (by decide +kernel : decode (zb 49) 13 = .ok (.iload_n 2, 1)) rfl, List.forall_mem_cons.mpr ⟨w_aload_n (by decide +kernel : decode (zb 49) 14 = .ok (.aload_n 0, 1)) rfl, List.forall_mem_cons.mpr ⟨w_iload_n (by decide +kernel : decode (zb 49) 15 = .ok (.iload_n 1, 1)) rfl, List.forall_mem_cons.mpr ⟨w_cV zw49 zo10 rfl rfl zin50 zse50 zca50 (by decide +kernel) (by decide +kernel) zmk_HummingSet_Wireless_62 (by decide +kernel : decode (zb 49) 16 = .ok (.invokevirtual 62, 3)), List.forall_mem_cons.mpr ⟨w_ige (by decide +kernel : decode (zb 49) 19 = .ok (.if_icmp .ge 7, 3)) rfl, List.forall_mem_cons.mpr ⟨w_iconst (by decide +kernel : decode (zb 49) 22 = .ok (.iconst 1, 1)) rfl, List.forall_mem_cons.mpr ⟨w_goto (by decide +kernel : decode (zb 49) 23 = .ok (.goto 4, 3)) rfl, List.forall_mem_cons.mpr ⟨w_iconst (by decide +kernel : decode (zb 49) 26 = .ok (.iconst 0, 1)) rfl, List.forall_mem_cons.mpr ⟨w_zr (by decide +kernel : decode (zb 49) 27 = .ok (.ireturn, 1)) rfl, fun _ h => absurd h List.not_mem_nil⟩⟩⟩⟩⟩⟩⟩⟩⟩⟩⟩⟩⟩⟩⟩⟩
theorem zs49 : ∀ q ∈ zc49, zSn 49 q := zs49_0
-- HummingSet$Wireless.asksOf(I)I
def zc50 : List (Nat × ZIns) := [(0, z_il 1 1), (1, z_ifne 6), (4, z_ic 1 1), (5, z_ir), (6, z_il 1 1), (7, z_ic 3 1), (8, z_ine 18), (11, z_al 0 1), (12, z_gI 10 6), (15, z_goto 22), (18, z_al 0 1), (19, z_gI 10 5), (22, z_ir)]
set_option maxRecDepth 100000 in
set_option maxHeartbeats 4000000 in
theorem zs50_0 : ∀ q ∈ ([(0, z_il 1 1), (1, z_ifne 6), (4, z_ic 1 1), (5, z_ir), (6, z_il 1 1), (7, z_ic 3 1), (8, z_ine 18), (11, z_al 0 1), (12, z_gI 10 6), (15, z_goto 22), (18, z_al 0 1), (19, z_gI 10 5), (22, z_ir)] : List (Nat × ZIns)), zSn 50 q := List.forall_mem_cons.mpr ⟨w_iload_n (by decide +kernel : decode (zb 50) 0 = .ok (.iload_n 1, 1)) rfl, List.forall_mem_cons.mpr ⟨w_ifne (by decide +kernel : decode (zb 50) 1 = .ok (.ifCond .ne 5, 3)) rfl, List.forall_mem_cons.mpr ⟨w_iconst (by decide +kernel : decode (zb 50) 4 = .ok (.iconst 1, 1)) rfl, List.forall_mem_cons.mpr ⟨w_ir (by decide +kernel : decode (zb 50) 5 = .ok (.ireturn, 1)) rfl, List.forall_mem_cons.mpr ⟨w_iload_n (by decide +kernel : decode (zb 50) 6 = .ok (.iload_n 1, 1)) rfl, List.forall_mem_cons.mpr ⟨w_iconst (by decide +kernel : decode (zb 50) 7 = .ok (.iconst 3, 1)) rfl, List.forall_mem_cons.mpr ⟨w_ine (by decide +kernel : decode (zb 50) 8 = .ok (.if_icmp .ne 10, 3)) rfl, List.forall_mem_cons.mpr ⟨w_aload_n (by decide +kernel : decode (zb 50) 11 = .ok (.aload_n 0, 1)) rfl, List.forall_mem_cons.mpr ⟨w_gI zw50 (j := 6) zo10 (by decide +kernel) zfk_HummingSet_Wireless_46 rfl (by decide +kernel : decode (zb 50) 12 = .ok (.getfield 46, 3)), List.forall_mem_cons.mpr ⟨w_goto (by decide +kernel : decode (zb 50) 15 = .ok (.goto 7, 3)) rfl, List.forall_mem_cons.mpr ⟨w_aload_n (by decide +kernel : decode (zb 50) 18 = .ok (.aload_n 0, 1)) rfl, List.forall_mem_cons.mpr ⟨w_gI zw50 (j := 5) zo10 (by decide +kernel) zfk_HummingSet_Wireless_42 rfl (by decide +kernel : decode (zb 50) 19 = .ok (.getfield 42, 3)), List.forall_mem_cons.mpr ⟨w_ir (by decide +kernel : decode (zb 50) 22 = .ok (.ireturn, 1)) rfl, fun _ h => absurd h List.not_mem_nil⟩⟩⟩⟩⟩⟩⟩⟩⟩⟩⟩⟩⟩
theorem zs50 : ∀ q ∈ zc50, zSn 50 q := zs50_0
-- HummingSet$Wireless.takeStage(II)Z
def zc51 : List (Nat × ZIns) := [(0, z_al 0 1), (1, z_gI 10 5), (4, z_ic 6 2), (6, z_ige 29), (9, z_il 1 1), (10, z_ic 1 1), (11, z_ic 50 2), (13, z_cS 100 3 3), (16, z_ifeq 29), (19, z_il 2 1), (20, z_ic 1 1), (21, z_ic 99 2), (23, z_cS 100 3 3), (26, z_ifne 31), (29, z_ic 0 1), (30, z_zr), (31, z_al 0 1), (32, z_gR 10 0), (35, z_al 0 1), (36, z_gI 10 5), (39, z_aald 24), (40, z_as 3 1), (41, z_al 3 1), (42, z_il 1 1), (43, z_pI 7 1), (46, z_al 3 1), (47, z_il 2 1), (48, z_pI 7 2), (51, z_ic 0 1), (52, z_is 4 2), (54, z_il 4 2), (56, z_ic 3 1), (57, z_ige 74), (60, z_al 3 1), (61, z_gR 7 0), (64, z_il 4 2), (66, z_ic 0 1), (67, z_iast), (68, z_inc 4 1), (71, z_goto 54), (74, z_al 0 1), (75, z_dup), (76, z_gI 10 5), (79, z_ic 1 1), (80, z_iadd), (81, z_pI 10 5), (84, z_ic 1 1), (85, z_zr)]
set_option maxRecDepth 100000 in
set_option maxHeartbeats 4000000 in
theorem zs51_0 : ∀ q ∈ ([(0, z_al 0 1), (1, z_gI 10 5), (4, z_ic 6 2), (6, z_ige 29), (9, z_il 1 1), (10, z_ic 1 1), (11, z_ic 50 2), (13, z_cS 100 3 3), (16, z_ifeq 29), (19, z_il 2 1), (20, z_ic 1 1), (21, z_ic 99 2), (23, z_cS 100 3 3), (26, z_ifne 31), (29, z_ic 0 1), (30, z_zr), (31, z_al 0 1), (32, z_gR 10 0), (35, z_al 0 1), (36, z_gI 10 5), (39, z_aald 24), (40, z_as 3 1), (41, z_al 3 1), (42, z_il 1 1), (43, z_pI 7 1), (46, z_al 3 1), (47, z_il 2 1), (48, z_pI 7 2), (51, z_ic 0 1), (52, z_is 4 2), (54, z_il 4 2), (56, z_ic 3 1), (57, z_ige 74), (60, z_al 3 1), (61, z_gR 7 0), (64, z_il 4 2), (66, z_ic 0 1), (67, z_iast), (68, z_inc 4 1), (71, z_goto 54)] : List (Nat × ZIns)), zSn 51 q := List.forall_mem_cons.mpr ⟨w_aload_n (by decide +kernel : decode (zb 51) 0 = .ok (.aload_n 0, 1)) rfl, List.forall_mem_cons.mpr ⟨w_gI zw51 (j := 5) zo10 (by decide +kernel) zfk_HummingSet_Wireless_42 rfl (by decide +kernel : decode (zb 51) 1 = .ok (.getfield 42, 3)), List.forall_mem_cons.mpr ⟨w_bipush (by decide +kernel : decode (zb 51) 4 = .ok (.bipush 6, 2)) rfl, List.forall_mem_cons.mpr ⟨w_ige (by decide +kernel : decode (zb 51) 6 = .ok (.if_icmp .ge 23, 3)) rfl, List.forall_mem_cons.mpr ⟨w_iload_n (by decide +kernel : decode (zb 51) 9 = .ok (.iload_n 1, 1)) rfl, List.forall_mem_cons.mpr ⟨w_iconst (by decide +kernel : decode (zb 51) 10 = .ok (.iconst 1, 1)) rfl, List.forall_mem_cons.mpr ⟨w_bipush (by decide +kernel : decode (zb 51) 11 = .ok (.bipush 50, 2)) rfl, List.forall_mem_cons.mpr ⟨w_cS zw51 rfl zst100 zca100 (by decide +kernel) (by decide +kernel) zmk_HummingSet_Wireless_58 (by decide +kernel : decode (zb 51) 13 = .ok (.invokestatic 58, 3)), List.forall_mem_cons.mpr ⟨w_ifeq (by decide +kernel : decode (zb 51) 16 = .ok (.ifCond .eq 13, 3)) rfl, List.forall_mem_cons.mpr ⟨w_iload_n (by decide +kernel : decode (zb 51) 19 = .ok (.iload_n 2, 1)) rfl, List.forall_mem_cons.mpr ⟨w_iconst (by decide +kernel : decode (zb 51) 20 = .ok (.iconst 1, 1)) rfl, List.forall_mem_cons.mpr ⟨w_bipush (by decide +kernel : decode (zb 51) 21 = .ok (.bipush 99, 2)) rfl, List.forall_mem_cons.mpr ⟨w_cS zw51 rfl zst100 zca100 (by decide +kernel) (by decide +kernel) zmk_HummingSet_Wireless_58 (by decide +kernel : decode (zb 51) 23 = .ok (.invokestatic 58, 3)), List.forall_mem_cons.mpr ⟨w_ifne (by decide +kernel : decode (zb 51) 26 = .ok (.ifCond .ne 5, 3)) rfl, List.forall_mem_cons.mpr ⟨w_iconst (by decide +kernel : decode (zb 51) 29 = .ok (.iconst 0, 1)) rfl, List.forall_mem_cons.mpr ⟨w_zr (by decide +kernel : decode (zb 51) 30 = .ok (.ireturn, 1)) rfl, List.forall_mem_cons.mpr ⟨w_aload_n (by decide +kernel : decode (zb 51) 31 = .ok (.aload_n 0, 1)) rfl, List.forall_mem_cons.mpr ⟨w_gR zw51 (j := 0) zo10 (by decide +kernel) zfk_HummingSet_Wireless_11 rfl (by decide +kernel : decode (zb 51) 32 = .ok (.getfield 11, 3)), List.forall_mem_cons.mpr ⟨w_aload_n (by decide +kernel : decode (zb 51) 35 = .ok (.aload_n 0, 1)) rfl, List.forall_mem_cons.mpr ⟨w_gI zw51 (j := 5) zo10 (by decide +kernel) zfk_HummingSet_Wireless_42 rfl (by decide +kernel : decode (zb 51) 36 = .ok (.getfield 42, 3)), List.forall_mem_cons.mpr ⟨w_aald24 (by decide +kernel : decode (zb 51) 39 = .ok (.aaload, 1)), List.forall_mem_cons.mpr ⟨w_astore_n (by decide +kernel : decode (zb 51) 40 = .ok (.astore_n 3, 1)) rfl, List.forall_mem_cons.mpr ⟨w_aload_n (by decide +kernel : decode (zb 51) 41 = .ok (.aload_n 3, 1)) rfl, List.forall_mem_cons.mpr ⟨w_iload_n (by decide +kernel : decode (zb 51) 42 = .ok (.iload_n 1, 1)) rfl, List.forall_mem_cons.mpr ⟨w_pI zw51 (j := 1) zo7 (by decide +kernel) zfk_HummingSet_Wireless_66 rfl rfl rfl (by decide +kernel : decode (zb 51) 43 = .ok (.putfield 66, 3)), List.forall_mem_cons.mpr ⟨w_aload_n (by decide +kernel : decode (zb 51) 46 = .ok (.aload_n 3, 1)) rfl, List.forall_mem_cons.mpr ⟨w_iload_n (by decide +kernel : decode (zb 51) 47 = .ok (.iload_n 2, 1)) rfl, List.forall_mem_cons.mpr ⟨w_pI zw51 (j := 2) zo7 (by decide +kernel) zfk_HummingSet_Wireless_69 rfl rfl rfl (by decide +kernel : decode (zb 51) 48 = .ok (.putfield 69, 3)), List.forall_mem_cons.mpr ⟨w_iconst (by decide +kernel : decode (zb 51) 51 = .ok (.iconst 0, 1)) rfl, List.forall_mem_cons.mpr ⟨w_istore (by decide +kernel : decode (zb 51) 52 = .ok (.istore 4, 2)), List.forall_mem_cons.mpr ⟨w_iload (by decide +kernel : decode (zb 51) 54 = .ok (.iload 4, 2)), List.forall_mem_cons.mpr ⟨w_iconst (by decide +kernel : decode (zb 51) 56 = .ok (.iconst 3, 1)) rfl, List.forall_mem_cons.mpr ⟨w_ige (by decide +kernel : decode (zb 51) 57 = .ok (.if_icmp .ge 17, 3)) rfl, List.forall_mem_cons.mpr ⟨w_aload_n (by decide +kernel : decode (zb 51) 60 = .ok (.aload_n 3, 1)) rfl, List.forall_mem_cons.mpr ⟨w_gR zw51 (j := 0) zo7 (by decide +kernel) zfk_HummingSet_Wireless_72 rfl (by decide +kernel : decode (zb 51) 61 = .ok (.getfield 72, 3)), List.forall_mem_cons.mpr ⟨w_iload (by decide +kernel : decode (zb 51) 64 = .ok (.iload 4, 2)), List.forall_mem_cons.mpr ⟨w_iconst (by decide +kernel : decode (zb 51) 66 = .ok (.iconst 0, 1)) rfl, List.forall_mem_cons.mpr ⟨w_iast (by decide +kernel : decode (zb 51) 67 = .ok (.iastore, 1)), List.forall_mem_cons.mpr ⟨w_iinc (by decide +kernel : decode (zb 51) 68 = .ok (.iinc 4 1, 3)) rfl, List.forall_mem_cons.mpr ⟨w_goto (by decide +kernel : decode (zb 51) 71 = .ok (.goto (-17), 3)) rfl, fun _ h => absurd h List.not_mem_nil⟩⟩⟩⟩⟩⟩⟩⟩⟩⟩⟩⟩⟩⟩⟩⟩⟩⟩⟩⟩⟩⟩⟩⟩⟩⟩⟩⟩⟩⟩⟩⟩⟩⟩⟩⟩⟩⟩⟩⟩
set_option maxRecDepth 100000 in
set_option maxHeartbeats 4000000 in
theorem zs51_1 : ∀ q ∈ ([(74, z_al 0 1), (75, z_dup), (76, z_gI 10 5), (79, z_ic 1 1), (80, z_iadd), (81, z_pI 10 5), (84, z_ic 1 1), (85, z_zr)] : List (Nat × ZIns)), zSn 51 q := List.forall_mem_cons.mpr ⟨w_aload_n (by decide +kernel : decode (zb 51) 74 = .ok (.aload_n 0, 1)) rfl, List.forall_mem_cons.mpr ⟨w_dup (by decide +kernel : decode (zb 51) 75 = .ok (.dup, 1)), List.forall_mem_cons.mpr ⟨w_gI zw51 (j := 5) zo10 (by decide +kernel) zfk_HummingSet_Wireless_42 rfl (by decide +kernel : decode (zb 51) 76 = .ok (.getfield 42, 3)), List.forall_mem_cons.mpr ⟨w_iconst (by decide +kernel : decode (zb 51) 79 = .ok (.iconst 1, 1)) rfl, List.forall_mem_cons.mpr ⟨w_iadd (by decide +kernel : decode (zb 51) 80 = .ok (.iadd, 1)), List.forall_mem_cons.mpr ⟨w_pI zw51 (j := 5) zo10 (by decide +kernel) zfk_HummingSet_Wireless_42 rfl rfl rfl (by decide +kernel : decode (zb 51) 81 = .ok (.putfield 42, 3)), List.forall_mem_cons.mpr ⟨w_iconst (by decide +kernel : decode (zb 51) 84 = .ok (.iconst 1, 1)) rfl, List.forall_mem_cons.mpr ⟨w_zr (by decide +kernel : decode (zb 51) 85 = .ok (.ireturn, 1)) rfl, fun _ h => absurd h List.not_mem_nil⟩⟩⟩⟩⟩⟩⟩⟩
theorem zs51 : ∀ q ∈ zc51, zSn 51 q := List.forall_mem_append.mpr ⟨zs51_0, zs51_1⟩
-- HummingSet$Wireless.takePart(IIIII)Z
def zc52 : List (Nat × ZIns) := [(0, z_al 0 1), (1, z_gI 10 6), (4, z_ic 8 2), (6, z_ige 58), (9, z_al 0 1), (10, z_il 1 1), (11, z_cV 10 46 2 1), (14, z_ifeq 58), (17, z_il 2 1), (18, z_ic 0 1), (19, z_ic 4 1), (20, z_cS 100 3 3), (23, z_ifeq 58), (26, z_il 3 1), (27, z_ic 0 1), (28, z_ic 99 2), (30, z_cS 100 3 3), (33, z_ifeq 58), (36, z_il 4 2), (38, z_ic 0 1), (39, z_ic 9 2), (41, z_cS 100 3 3), (44, z_ifeq 58), (47, z_il 5 2), (49, z_ic 0 1), (50, z_ic 30 2), (52, z_cS 100 3 3), (55, z_ifne 60), (58, z_ic 0 1), (59, z_zr), (60, z_al 0 1), (61, z_gR 10 1), (64, z_al 0 1), (65, z_gI 10 6), (68, z_aald 25), (69, z_as 6 2), (71, z_al 6 2), (73, z_il 1 1), (74, z_pI 3 1), (77, z_al 6 2), (79, z_il 2 1), (80, z_pI 3 2), (83, z_al 6 2), (85, z_il 3 1), (86, z_pI 3 3), (89, z_al 6 2), (91, z_il 4 2), (93, z_pI 3 4), (96, z_al 6 2), (98, z_il 5 2), (100, z_pI 3 5), (103, z_al 6 2), (105, z_ic 10 2), (107, z_pI 3 6), (110, z_al 6 2), (112, z_ic 0 1), (113, z_pI 3 7), (116, z_al 6 2), (118, z_ic 1 1), (119, z_pI 3 8), (122, z_ic 0 1), (123, z_is 7 2), (125, z_il 7 2), (127, z_ic 3 1), (128, z_ige 146), (131, z_al 6 2), (133, z_gR 3 0), (136, z_il 7 2), (138, z_ic 0 1), (139, z_iast), (140, z_inc 7 1), (143, z_goto 125), (146, z_al 0 1), (147, z_dup), (148, z_gI 10 6), (151, z_ic 1 1), (152, z_iadd), (153, z_pI 10 6), (156, z_ic 1 1), (157, z_zr)]
set_option maxRecDepth 100000 in
set_option maxHeartbeats 4000000 in
theorem zs52_0 : ∀ q ∈ ([(0, z_al 0 1), (1, z_gI 10 6), (4, z_ic 8 2), (6, z_ige 58), (9, z_al 0 1), (10, z_il 1 1), (11, z_cV 10 46 2 1), (14, z_ifeq 58), (17, z_il 2 1), (18, z_ic 0 1), (19, z_ic 4 1), (20, z_cS 100 3 3), (23, z_ifeq 58), (26, z_il 3 1), (27, z_ic 0 1), (28, z_ic 99 2), (30, z_cS 100 3 3), (33, z_ifeq 58), (36, z_il 4 2), (38, z_ic 0 1), (39, z_ic 9 2), (41, z_cS 100 3 3), (44, z_ifeq 58), (47, z_il 5 2), (49, z_ic 0 1), (50, z_ic 30 2), (52, z_cS 100 3 3), (55, z_ifne 60), (58, z_ic 0 1), (59, z_zr), (60, z_al 0 1), (61, z_gR 10 1), (64, z_al 0 1), (65, z_gI 10 6), (68, z_aald 25), (69, z_as 6 2), (71, z_al 6 2), (73, z_il 1 1), (74, z_pI 3 1), (77, z_al 6 2)] : List (Nat × ZIns)), zSn 52 q := List.forall_mem_cons.mpr ⟨w_aload_n (by decide +kernel : decode (zb 52) 0 = .ok (.aload_n 0, 1)) rfl, List.forall_mem_cons.mpr ⟨w_gI zw52 (j := 6) zo10 (by decide +kernel) zfk_HummingSet_Wireless_46 rfl (by decide +kernel : decode (zb 52) 1 = .ok (.getfield 46, 3)), List.forall_mem_cons.mpr ⟨w_bipush (by decide +kernel : decode (zb 52) 4 = .ok (.bipush 8, 2)) rfl, List.forall_mem_cons.mpr ⟨w_ige (by decide +kernel : decode (zb 52) 6 = .ok (.if_icmp .ge 52, 3)) rfl, List.forall_mem_cons.mpr ⟨w_aload_n (by decide +kernel : decode (zb 52) 9 = .ok (.aload_n 0, 1)) rfl, List.forall_mem_cons.mpr ⟨w_iload_n (by decide +kernel : decode (zb 52) 10 = .ok (.iload_n 1, 1)) rfl, List.forall_mem_cons.mpr ⟨w_cV zw52 zo10 rfl rfl zin46 zse46 zca46 (by decide +kernel) (by decide +kernel) zmk_HummingSet_Wireless_75 (by decide +kernel : decode (zb 52) 11 = .ok (.invokevirtual 75, 3)), List.forall_mem_cons.mpr ⟨w_ifeq (by decide +kernel : decode (zb 52) 14 = .ok (.ifCond .eq 44, 3)) rfl, List.forall_mem_cons.mpr ⟨w_iload_n (by decide +kernel : decode (zb 52) 17 = .ok (.iload_n 2, 1)) rfl, List.forall_mem_cons.mpr ⟨w_iconst (by decide +kernel : decode (zb 52) 18 = .ok (.iconst 0, 1)) rfl, List.forall_mem_cons.mpr ⟨w_iconst (by decide +kernel : decode (zb 52) 19 = .ok (.iconst 4, 1)) rfl, List.forall_mem_cons.mpr ⟨w_cS zw52 rfl zst100 zca100 (by decide +kernel) (by decide +kernel) zmk_HummingSet_Wireless_58 (by decide +kernel : decode (zb 52) 20 = .ok (.invokestatic 58, 3)), List.forall_mem_cons.mpr ⟨w_ifeq (by decide +kernel : decode (zb 52) 23 = .ok (.ifCond .eq 35, 3)) rfl, List.forall_mem_cons.mpr ⟨w_iload_n (by decide +kernel : decode (zb 52) 26 = .ok (.iload_n 3, 1)) rfl, List.forall_mem_cons.mpr ⟨w_iconst (by decide +kernel : decode (zb 52) 27 = .ok (.iconst 0, 1)) rfl, List.forall_mem_cons.mpr ⟨w_bipush (by decide +kernel : decode (zb 52) 28 = .ok (.bipush 99, 2)) rfl, List.forall_mem_cons.mpr ⟨w_cS zw52 rfl zst100 zca100 (by decide +kernel) (by decide +kernel) zmk_HummingSet_Wireless_58 (by decide +kernel : decode (zb 52) 30 = .ok (.invokestatic 58, 3)), List.forall_mem_cons.mpr ⟨w_ifeq (by decide +kernel : decode (zb 52) 33 = .ok (.ifCond .eq 25, 3)) rfl, List.forall_mem_cons.mpr ⟨w_iload (by decide +kernel : decode (zb 52) 36 = .ok (.iload 4, 2)), List.forall_mem_cons.mpr ⟨w_iconst (by decide +kernel : decode (zb 52) 38 = .ok (.iconst 0, 1)) rfl, List.forall_mem_cons.mpr ⟨w_bipush (by decide +kernel : decode (zb 52) 39 = .ok (.bipush 9, 2)) rfl, List.forall_mem_cons.mpr ⟨w_cS zw52 rfl zst100 zca100 (by decide +kernel) (by decide +kernel) zmk_HummingSet_Wireless_58 (by decide +kernel : decode (zb 52) 41 = .ok (.invokestatic 58, 3)), List.forall_mem_cons.mpr ⟨w_ifeq (by decide +kernel : decode (zb 52) 44 = .ok (.ifCond .eq 14, 3)) rfl, List.forall_mem_cons.mpr ⟨w_iload (by decide +kernel : decode (zb 52) 47 = .ok (.iload 5, 2)), List.forall_mem_cons.mpr ⟨w_iconst (by decide +kernel : decode (zb 52) 49 = .ok (.iconst 0, 1)) rfl, List.forall_mem_cons.mpr ⟨w_bipush (by decide +kernel : decode (zb 52) 50 = .ok (.bipush 30, 2)) rfl, List.forall_mem_cons.mpr ⟨w_cS zw52 rfl zst100 zca100 (by decide +kernel) (by decide +kernel) zmk_HummingSet_Wireless_58 (by decide +kernel : decode (zb 52) 52 = .ok (.invokestatic 58, 3)), List.forall_mem_cons.mpr ⟨w_ifne (by decide +kernel : decode (zb 52) 55 = .ok (.ifCond .ne 5, 3)) rfl, List.forall_mem_cons.mpr ⟨w_iconst (by decide +kernel : decode (zb 52) 58 = .ok (.iconst 0, 1)) rfl, List.forall_mem_cons.mpr ⟨w_zr (by decide +kernel : decode (zb 52) 59 = .ok (.ireturn, 1)) rfl, List.forall_mem_cons.mpr ⟨w_aload_n (by decide +kernel : decode (zb 52) 60 = .ok (.aload_n 0, 1)) rfl, List.forall_mem_cons.mpr ⟨w_gR zw52 (j := 1) zo10 (by decide +kernel) zfk_HummingSet_Wireless_19 rfl (by decide +kernel : decode (zb 52) 61 = .ok (.getfield 19, 3)), List.forall_mem_cons.mpr ⟨w_aload_n (by decide +kernel : decode (zb 52) 64 = .ok (.aload_n 0, 1)) rfl, List.forall_mem_cons.mpr ⟨w_gI zw52 (j := 6) zo10 (by decide +kernel) zfk_HummingSet_Wireless_46 rfl (by decide +kernel : decode (zb 52) 65 = .ok (.getfield 46, 3)), List.forall_mem_cons.mpr ⟨w_aald25 (by decide +kernel : decode (zb 52) 68 = .ok (.aaload, 1)), List.forall_mem_cons.mpr ⟨w_astore (by decide +kernel : decode (zb 52) 69 = .ok (.astore 6, 2)), List.forall_mem_cons.mpr ⟨w_aload (by decide +kernel : decode (zb 52) 71 = .ok (.aload 6, 2)), List.forall_mem_cons.mpr ⟨w_iload_n (by decide +kernel : decode (zb 52) 73 = .ok (.iload_n 1, 1)) rfl, List.forall_mem_cons.mpr ⟨w_pI zw52 (j := 1) zo3 (by decide +kernel) zfk_HummingSet_Wireless_79 rfl rfl rfl (by decide +kernel : decode (zb 52) 74 = .ok (.putfield 79, 3)), List.forall_mem_cons.mpr ⟨w_aload (by decide +kernel : decode (zb 52) 77 = .ok (.aload 6, 2)), fun _ h => absurd h List.not_mem_nil⟩⟩⟩⟩⟩⟩⟩⟩⟩⟩⟩⟩⟩⟩⟩⟩⟩⟩⟩⟩⟩⟩⟩⟩⟩⟩⟩⟩⟩⟩⟩⟩⟩⟩⟩⟩⟩⟩⟩⟩
set_option maxRecDepth 100000 in
set_option maxHeartbeats 4000000 in
theorem zs52_1 : ∀ q ∈ ([(79, z_il 2 1), (80, z_pI 3 2), (83, z_al 6 2), (85, z_il 3 1), (86, z_pI 3 3), (89, z_al 6 2), (91, z_il 4 2), (93, z_pI 3 4), (96, z_al 6 2), (98, z_il 5 2), (100, z_pI 3 5), (103, z_al 6 2), (105, z_ic 10 2), (107, z_pI 3 6), (110, z_al 6 2), (112, z_ic 0 1), (113, z_pI 3 7), (116, z_al 6 2), (118, z_ic 1 1), (119, z_pI 3 8), (122, z_ic 0 1), (123, z_is 7 2), (125, z_il 7 2), (127, z_ic 3 1), (128, z_ige 146), (131, z_al 6 2), (133, z_gR 3 0), (136, z_il 7 2), (138, z_ic 0 1), (139, z_iast), (140, z_inc 7 1), (143, z_goto 125), (146, z_al 0 1), (147, z_dup), (148, z_gI 10 6), (151, z_ic 1 1), (152, z_iadd), (153, z_pI 10 6), (156, z_ic 1 1), (157, z_zr)] : List (Nat × ZIns)), zSn 52 q := List.forall_mem_cons.mpr ⟨w_iload_n (by decide +kernel : decode (zb 52) 79 = .ok (.iload_n 2, 1)) rfl, List.forall_mem_cons.mpr ⟨w_pI zw52 (j := 2) zo3 (by decide +kernel) zfk_HummingSet_Wireless_82 rfl rfl rfl (by decide +kernel : decode (zb 52) 80 = .ok (.putfield 82, 3)), List.forall_mem_cons.mpr ⟨w_aload (by decide +kernel : decode (zb 52) 83 = .ok (.aload 6, 2)), List.forall_mem_cons.mpr ⟨w_iload_n (by decide +kernel : decode (zb 52) 85 = .ok (.iload_n 3, 1)) rfl, List.forall_mem_cons.mpr ⟨w_pI zw52 (j := 3) zo3 (by decide +kernel) zfk_HummingSet_Wireless_85 rfl rfl rfl (by decide +kernel : decode (zb 52) 86 = .ok (.putfield 85, 3)), List.forall_mem_cons.mpr ⟨w_aload (by decide +kernel : decode (zb 52) 89 = .ok (.aload 6, 2)), List.forall_mem_cons.mpr ⟨w_iload (by decide +kernel : decode (zb 52) 91 = .ok (.iload 4, 2)), List.forall_mem_cons.mpr ⟨w_pI zw52 (j := 4) zo3 (by decide +kernel) zfk_HummingSet_Wireless_88 rfl rfl rfl (by decide +kernel : decode (zb 52) 93 = .ok (.putfield 88, 3)), List.forall_mem_cons.mpr ⟨w_aload (by decide +kernel : decode (zb 52) 96 = .ok (.aload 6, 2)), List.forall_mem_cons.mpr ⟨w_iload (by decide +kernel : decode (zb 52) 98 = .ok (.iload 5, 2)), List.forall_mem_cons.mpr ⟨w_pI zw52 (j := 5) zo3 (by decide +kernel) zfk_HummingSet_Wireless_91 rfl rfl rfl (by decide +kernel : decode (zb 52) 100 = .ok (.putfield 91, 3)), List.forall_mem_cons.mpr ⟨w_aload (by decide +kernel : decode (zb 52) 103 = .ok (.aload 6, 2)), List.forall_mem_cons.mpr ⟨w_bipush (by decide +kernel : decode (zb 52) 105 = .ok (.bipush 10, 2)) rfl, List.forall_mem_cons.mpr ⟨w_pI zw52 (j := 6) zo3 (by decide +kernel) zfk_HummingSet_Wireless_94 rfl rfl rfl (by decide +kernel : decode (zb 52) 107 = .ok (.putfield 94, 3)), List.forall_mem_cons.mpr ⟨w_aload (by decide +kernel : decode (zb 52) 110 = .ok (.aload 6, 2)), List.forall_mem_cons.mpr ⟨w_iconst (by decide +kernel : decode (zb 52) 112 = .ok (.iconst 0, 1)) rfl, List.forall_mem_cons.mpr ⟨w_pI zw52 (j := 7) zo3 (by decide +kernel) zfk_HummingSet_Wireless_97 rfl rfl rfl (by decide +kernel : decode (zb 52) 113 = .ok (.putfield 97, 3)), List.forall_mem_cons.mpr ⟨w_aload (by decide +kernel : decode (zb 52) 116 = .ok (.aload 6, 2)), List.forall_mem_cons.mpr ⟨w_iconst (by decide +kernel : decode (zb 52) 118 = .ok (.iconst 1, 1)) rfl, List.forall_mem_cons.mpr ⟨w_pI zw52 (j := 8) zo3 (by decide +kernel) zfk_HummingSet_Wireless_100 rfl rfl rfl (by decide +kernel : decode (zb 52) 119 = .ok (.putfield 100, 3)), List.forall_mem_cons.mpr ⟨w_iconst (by decide +kernel : decode (zb 52) 122 = .ok (.iconst 0, 1)) rfl, List.forall_mem_cons.mpr ⟨w_istore (by decide +kernel : decode (zb 52) 123 = .ok (.istore 7, 2)), List.forall_mem_cons.mpr ⟨w_iload (by decide +kernel : decode (zb 52) 125 = .ok (.iload 7, 2)), List.forall_mem_cons.mpr ⟨w_iconst (by decide +kernel : decode (zb 52) 127 = .ok (.iconst 3, 1)) rfl, List.forall_mem_cons.mpr ⟨w_ige (by decide +kernel : decode (zb 52) 128 = .ok (.if_icmp .ge 18, 3)) rfl, List.forall_mem_cons.mpr ⟨w_aload (by decide +kernel : decode (zb 52) 131 = .ok (.aload 6, 2)), List.forall_mem_cons.mpr ⟨w_gR zw52 (j := 0) zo3 (by decide +kernel) zfk_HummingSet_Wireless_103 rfl (by decide +kernel : decode (zb 52) 133 = .ok (.getfield 103, 3)), List.forall_mem_cons.mpr ⟨w_iload (by decide +kernel : decode (zb 52) 136 = .ok (.iload 7, 2)), List.forall_mem_cons.mpr ⟨w_iconst (by decide +kernel : decode (zb 52) 138 = .ok (.iconst 0, 1)) rfl, List.forall_mem_cons.mpr ⟨w_iast (by decide +kernel : decode (zb 52) 139 = .ok (.iastore, 1)), List.forall_mem_cons.mpr ⟨w_iinc (by decide +kernel : decode (zb 52) 140 = .ok (.iinc 7 1, 3)) rfl, List.forall_mem_cons.mpr ⟨w_goto (by decide +kernel : decode (zb 52) 143 = .ok (.goto (-18), 3)) rfl, List.forall_mem_cons.mpr ⟨w_aload_n (by decide +kernel : decode (zb 52) 146 = .ok (.aload_n 0, 1)) rfl, List.forall_mem_cons.mpr ⟨w_dup (by decide +kernel : decode (zb 52) 147 = .ok (.dup, 1)), List.forall_mem_cons.mpr ⟨w_gI zw52 (j := 6) zo10 (by decide +kernel) zfk_HummingSet_Wireless_46 rfl (by decide +kernel : decode (zb 52) 148 = .ok (.getfield 46, 3)), List.forall_mem_cons.mpr ⟨w_iconst (by decide +kernel : decode (zb 52) 151 = .ok (.iconst 1, 1)) rfl, List.forall_mem_cons.mpr ⟨w_iadd (by decide +kernel : decode (zb 52) 152 = .ok (.iadd, 1)), List.forall_mem_cons.mpr ⟨w_pI zw52 (j := 6) zo10 (by decide +kernel) zfk_HummingSet_Wireless_46 rfl rfl rfl (by decide +kernel : decode (zb 52) 153 = .ok (.putfield 46, 3)), List.forall_mem_cons.mpr ⟨w_iconst (by decide +kernel : decode (zb 52) 156 = .ok (.iconst 1, 1)) rfl, List.forall_mem_cons.mpr ⟨w_zr (by decide +kernel : decode (zb 52) 157 = .ok (.ireturn, 1)) rfl, fun _ h => absurd h List.not_mem_nil⟩⟩⟩⟩⟩⟩⟩⟩⟩⟩⟩⟩⟩⟩⟩⟩⟩⟩⟩⟩⟩⟩⟩⟩⟩⟩⟩⟩⟩⟩⟩⟩⟩⟩⟩⟩⟩⟩⟩⟩
theorem zs52 : ∀ q ∈ zc52, zSn 52 q := List.forall_mem_append.mpr ⟨zs52_0, zs52_1⟩
-- HummingSet$Wireless.takeLet(III)Z
def zc53 : List (Nat × ZIns) := [(0, z_al 0 1), (1, z_gI 10 8), (4, z_ic 16 2), (6, z_ige 35), (9, z_al 0 1), (10, z_il 1 1), (11, z_cV 10 47 2 1), (14, z_ifeq 35), (17, z_il 2 1), (18, z_cS 101 1 1), (21, z_ifeq 35), (24, z_il 3 1), (25, z_ic (-50) 2), (27, z_ic 50 2), (29, z_cS 100 3 3), (32, z_ifne 37), (35, z_ic 0 1), (36, z_zr), (37, z_al 0 1), (38, z_gR 10 1), (41, z_il 1 1), (42, z_aald 25), (43, z_gR 3 0), (46, z_il 2 1), (47, z_dup2), (48, z_iald 20), (49, z_il 3 1), (50, z_iadd), (51, z_iast), (52, z_al 0 1), (53, z_dup), (54, z_gI 10 8), (57, z_ic 1 1), (58, z_iadd), (59, z_pI 10 8), (62, z_ic 1 1), (63, z_zr)]
set_option maxRecDepth 100000 in
set_option maxHeartbeats 4000000 in
theorem zs53_0 : ∀ q ∈ ([(0, z_al 0 1), (1, z_gI 10 8), (4, z_ic 16 2), (6, z_ige 35), (9, z_al 0 1), (10, z_il 1 1), (11, z_cV 10 47 2 1), (14, z_ifeq 35), (17, z_il 2 1), (18, z_cS 101 1 1), (21, z_ifeq 35), (24, z_il 3 1), (25, z_ic (-50) 2), (27, z_ic 50 2), (29, z_cS 100 3 3), (32, z_ifne 37), (35, z_ic 0 1), (36, z_zr), (37, z_al 0 1), (38, z_gR 10 1), (41, z_il 1 1), (42, z_aald 25), (43, z_gR 3 0), (46, z_il 2 1), (47, z_dup2), (48, z_iald 20), (49, z_il 3 1), (50, z_iadd), (51, z_iast), (52, z_al 0 1), (53, z_dup), (54, z_gI 10 8), (57, z_ic 1 1), (58, z_iadd), (59, z_pI 10 8), (62, z_ic 1 1), (63, z_zr)] : List (Nat × ZIns)), zSn 53 q := List.forall_mem_cons.mpr ⟨w_aload_n (by decide +kernel : decode (zb 53) 0 = .ok (.aload_n 0, 1)) rfl, List.forall_mem_cons.mpr ⟨w_gI zw53 (j := 8) zo10 (by decide +kernel) zfk_HummingSet_Wireless_52 rfl (by decide +kernel : decode (zb 53) 1 = .ok (.getfield 52, 3)), List.forall_mem_cons.mpr ⟨w_bipush (by decide +kernel : decode (zb 53) 4 = .ok (.bipush 16, 2)) rfl, List.forall_mem_cons.mpr ⟨w_ige (by decide +kernel : decode (zb 53) 6 = .ok (.if_icmp .ge 29, 3)) rfl, List.forall_mem_cons.mpr ⟨w_aload_n (by decide +kernel : decode (zb 53) 9 = .ok (.aload_n 0, 1)) rfl, List.forall_mem_cons.mpr ⟨w_iload_n (by decide +kernel : decode (zb 53) 10 = .ok (.iload_n 1, 1)) rfl, List.forall_mem_cons.mpr ⟨w_cV zw53 zo10 rfl rfl zin47 zse47 zca47 (by decide +kernel) (by decide +kernel) zmk_HummingSet_Wireless_106 (by decide +kernel : decode (zb 53) 11 = .ok (.invokevirtual 106, 3)), List.forall_mem_cons.mpr ⟨w_ifeq (by decide +kernel : decode (zb 53) 14 = .ok (.ifCond .eq 21, 3)) rfl, List.forall_mem_cons.mpr ⟨w_iload_n (by decide +kernel : decode (zb 53) 17 = .ok (.iload_n 2, 1)) rfl, List.forall_mem_cons.mpr ⟨w_cS zw53 rfl zst101 zca101 (by decide +kernel) (by decide +kernel) zmk_HummingSet_Wireless_109 (by decide +kernel : decode (zb 53) 18 = .ok (.invokestatic 109, 3)), List.forall_mem_cons.mpr ⟨w_ifeq (by decide +kernel : decode (zb 53) 21 = .ok (.ifCond .eq 14, 3)) rfl, List.forall_mem_cons.mpr ⟨w_iload_n (by decide +kernel : decode (zb 53) 24 = .ok (.iload_n 3, 1)) rfl, List.forall_mem_cons.mpr ⟨w_bipush (by decide +kernel : decode (zb 53) 25 = .ok (.bipush (-50), 2)) rfl, List.forall_mem_cons.mpr ⟨w_bipush (by decide +kernel : decode (zb 53) 27 = .ok (.bipush 50, 2)) rfl, List.forall_mem_cons.mpr ⟨w_cS zw53 rfl zst100 zca100 (by decide +kernel) (by decide +kernel) zmk_HummingSet_Wireless_58 (by decide +kernel : decode (zb 53) 29 = .ok (.invokestatic 58, 3)), List.forall_mem_cons.mpr ⟨w_ifne (by decide +kernel : decode (zb 53) 32 = .ok (.ifCond .ne 5, 3)) rfl, List.forall_mem_cons.mpr ⟨w_iconst (by decide +kernel : decode (zb 53) 35 = .ok (.iconst 0, 1)) rfl, List.forall_mem_cons.mpr ⟨w_zr (by decide +kernel : decode (zb 53) 36 = .ok (.ireturn, 1)) rfl, List.forall_mem_cons.mpr ⟨w_aload_n (by decide +kernel : decode (zb 53) 37 = .ok (.aload_n 0, 1)) rfl, List.forall_mem_cons.mpr ⟨w_gR zw53 (j := 1) zo10 (by decide +kernel) zfk_HummingSet_Wireless_19 rfl (by decide +kernel : decode (zb 53) 38 = .ok (.getfield 19, 3)), List.forall_mem_cons.mpr ⟨w_iload_n (by decide +kernel : decode (zb 53) 41 = .ok (.iload_n 1, 1)) rfl, List.forall_mem_cons.mpr ⟨w_aald25 (by decide +kernel : decode (zb 53) 42 = .ok (.aaload, 1)), List.forall_mem_cons.mpr ⟨w_gR zw53 (j := 0) zo3 (by decide +kernel) zfk_HummingSet_Wireless_103 rfl (by decide +kernel : decode (zb 53) 43 = .ok (.getfield 103, 3)), List.forall_mem_cons.mpr ⟨w_iload_n (by decide +kernel : decode (zb 53) 46 = .ok (.iload_n 2, 1)) rfl, List.forall_mem_cons.mpr ⟨w_dup2 (by decide +kernel : decode (zb 53) 47 = .ok (.dup2, 1)), List.forall_mem_cons.mpr ⟨w_iald (by decide +kernel : decode (zb 53) 48 = .ok (.iaload, 1)), List.forall_mem_cons.mpr ⟨w_iload_n (by decide +kernel : decode (zb 53) 49 = .ok (.iload_n 3, 1)) rfl, List.forall_mem_cons.mpr ⟨w_iadd (by decide +kernel : decode (zb 53) 50 = .ok (.iadd, 1)), List.forall_mem_cons.mpr ⟨w_iast (by decide +kernel : decode (zb 53) 51 = .ok (.iastore, 1)), List.forall_mem_cons.mpr ⟨w_aload_n (by decide +kernel : decode (zb 53) 52 = .ok (.aload_n 0, 1)) rfl, List.forall_mem_cons.mpr ⟨w_dup (by decide +kernel : decode (zb 53) 53 = .ok (.dup, 1)), List.forall_mem_cons.mpr ⟨w_gI zw53 (j := 8) zo10 (by decide +kernel) zfk_HummingSet_Wireless_52 rfl (by decide +kernel : decode (zb 53) 54 = .ok (.getfield 52, 3)), List.forall_mem_cons.mpr ⟨w_iconst (by decide +kernel : decode (zb 53) 57 = .ok (.iconst 1, 1)) rfl, List.forall_mem_cons.mpr ⟨w_iadd (by decide +kernel : decode (zb 53) 58 = .ok (.iadd, 1)), List.forall_mem_cons.mpr ⟨w_pI zw53 (j := 8) zo10 (by decide +kernel) zfk_HummingSet_Wireless_52 rfl rfl rfl (by decide +kernel : decode (zb 53) 59 = .ok (.putfield 52, 3)), List.forall_mem_cons.mpr ⟨w_iconst (by decide +kernel : decode (zb 53) 62 = .ok (.iconst 1, 1)) rfl, List.forall_mem_cons.mpr ⟨w_zr (by decide +kernel : decode (zb 53) 63 = .ok (.ireturn, 1)) rfl, fun _ h => absurd h List.not_mem_nil⟩⟩⟩⟩⟩⟩⟩⟩⟩⟩⟩⟩⟩⟩⟩⟩⟩⟩⟩⟩⟩⟩⟩⟩⟩⟩⟩⟩⟩⟩⟩⟩⟩⟩⟩⟩⟩
theorem zs53 : ∀ q ∈ zc53, zSn 53 q := zs53_0
-- HummingSet$Wireless.takeMains(III)Z
def zc54 : List (Nat × ZIns) := [(0, z_al 0 1), (1, z_gI 10 9), (4, z_ic 6 2), (6, z_ige 35), (9, z_al 0 1), (10, z_il 1 1), (11, z_cV 10 46 2 1), (14, z_ifeq 35), (17, z_il 2 1), (18, z_cS 101 1 1), (21, z_ifeq 35), (24, z_il 3 1), (25, z_ic (-50) 2), (27, z_ic 50 2), (29, z_cS 100 3 3), (32, z_ifne 37), (35, z_ic 0 1), (36, z_zr), (37, z_al 0 1), (38, z_gR 10 0), (41, z_il 1 1), (42, z_aald 24), (43, z_gR 7 0), (46, z_il 2 1), (47, z_dup2), (48, z_iald 20), (49, z_il 3 1), (50, z_iadd), (51, z_iast), (52, z_al 0 1), (53, z_dup), (54, z_gI 10 9), (57, z_ic 1 1), (58, z_iadd), (59, z_pI 10 9), (62, z_ic 1 1), (63, z_zr)]
set_option maxRecDepth 100000 in
set_option maxHeartbeats 4000000 in
theorem zs54_0 : ∀ q ∈ ([(0, z_al 0 1), (1, z_gI 10 9), (4, z_ic 6 2), (6, z_ige 35), (9, z_al 0 1), (10, z_il 1 1), (11, z_cV 10 46 2 1), (14, z_ifeq 35), (17, z_il 2 1), (18, z_cS 101 1 1), (21, z_ifeq 35), (24, z_il 3 1), (25, z_ic (-50) 2), (27, z_ic 50 2), (29, z_cS 100 3 3), (32, z_ifne 37), (35, z_ic 0 1), (36, z_zr), (37, z_al 0 1), (38, z_gR 10 0), (41, z_il 1 1), (42, z_aald 24), (43, z_gR 7 0), (46, z_il 2 1), (47, z_dup2), (48, z_iald 20), (49, z_il 3 1), (50, z_iadd), (51, z_iast), (52, z_al 0 1), (53, z_dup), (54, z_gI 10 9), (57, z_ic 1 1), (58, z_iadd), (59, z_pI 10 9), (62, z_ic 1 1), (63, z_zr)] : List (Nat × ZIns)), zSn 54 q := List.forall_mem_cons.mpr ⟨w_aload_n (by decide +kernel : decode (zb 54) 0 = .ok (.aload_n 0, 1)) rfl, List.forall_mem_cons.mpr ⟨w_gI zw54 (j := 9) zo10 (by decide +kernel) zfk_HummingSet_Wireless_55 rfl (by decide +kernel : decode (zb 54) 1 = .ok (.getfield 55, 3)), List.forall_mem_cons.mpr ⟨w_bipush (by decide +kernel : decode (zb 54) 4 = .ok (.bipush 6, 2)) rfl, List.forall_mem_cons.mpr ⟨w_ige (by decide +kernel : decode (zb 54) 6 = .ok (.if_icmp .ge 29, 3)) rfl, List.forall_mem_cons.mpr ⟨w_aload_n (by decide +kernel : decode (zb 54) 9 = .ok (.aload_n 0, 1)) rfl, List.forall_mem_cons.mpr ⟨w_iload_n (by decide +kernel : decode (zb 54) 10 = .ok (.iload_n 1, 1)) rfl, List.forall_mem_cons.mpr ⟨w_cV zw54 zo10 rfl rfl zin46 zse46 zca46 (by decide +kernel) (by decide +kernel) zmk_HummingSet_Wireless_75 (by decide +kernel : decode (zb 54) 11 = .ok (.invokevirtual 75, 3)), List.forall_mem_cons.mpr ⟨w_ifeq (by decide +kernel : decode (zb 54) 14 = .ok (.ifCond .eq 21, 3)) rfl, List.forall_mem_cons.mpr ⟨w_iload_n (by decide +kernel : decode (zb 54) 17 = .ok (.iload_n 2, 1)) rfl, List.forall_mem_cons.mpr ⟨w_cS zw54 rfl zst101 zca101 (by decide +kernel) (by decide +kernel) zmk_HummingSet_Wireless_109 (by decide +kernel : decode (zb 54) 18 = .ok (.invokestatic 109, 3)), List.forall_mem_cons.mpr ⟨w_ifeq (by decide +kernel : decode (zb 54) 21 = .ok (.ifCond .eq 14, 3)) rfl, List.forall_mem_cons.mpr ⟨w_iload_n (by decide +kernel : decode (zb 54) 24 = .ok (.iload_n 3, 1)) rfl, List.forall_mem_cons.mpr ⟨w_bipush (by decide +kernel : decode (zb 54) 25 = .ok (.bipush (-50), 2)) rfl, List.forall_mem_cons.mpr ⟨w_bipush (by decide +kernel : decode (zb 54) 27 = .ok (.bipush 50, 2)) rfl, List.forall_mem_cons.mpr ⟨w_cS zw54 rfl zst100 zca100 (by decide +kernel) (by decide +kernel) zmk_HummingSet_Wireless_58 (by decide +kernel : decode (zb 54) 29 = .ok (.invokestatic 58, 3)), List.forall_mem_cons.mpr ⟨w_ifne (by decide +kernel : decode (zb 54) 32 = .ok (.ifCond .ne 5, 3)) rfl, List.forall_mem_cons.mpr ⟨w_iconst (by decide +kernel : decode (zb 54) 35 = .ok (.iconst 0, 1)) rfl, List.forall_mem_cons.mpr ⟨w_zr (by decide +kernel : decode (zb 54) 36 = .ok (.ireturn, 1)) rfl, List.forall_mem_cons.mpr ⟨w_aload_n (by decide +kernel : decode (zb 54) 37 = .ok (.aload_n 0, 1)) rfl, List.forall_mem_cons.mpr ⟨w_gR zw54 (j := 0) zo10 (by decide +kernel) zfk_HummingSet_Wireless_11 rfl (by decide +kernel : decode (zb 54) 38 = .ok (.getfield 11, 3)), List.forall_mem_cons.mpr ⟨w_iload_n (by decide +kernel : decode (zb 54) 41 = .ok (.iload_n 1, 1)) rfl, List.forall_mem_cons.mpr ⟨w_aald24 (by decide +kernel : decode (zb 54) 42 = .ok (.aaload, 1)), List.forall_mem_cons.mpr ⟨w_gR zw54 (j := 0) zo7 (by decide +kernel) zfk_HummingSet_Wireless_72 rfl (by decide +kernel : decode (zb 54) 43 = .ok (.getfield 72, 3)), List.forall_mem_cons.mpr ⟨w_iload_n (by decide +kernel : decode (zb 54) 46 = .ok (.iload_n 2, 1)) rfl, List.forall_mem_cons.mpr ⟨w_dup2 (by decide +kernel : decode (zb 54) 47 = .ok (.dup2, 1)), List.forall_mem_cons.mpr ⟨w_iald (by decide +kernel : decode (zb 54) 48 = .ok (.iaload, 1)), List.forall_mem_cons.mpr ⟨w_iload_n (by decide +kernel : decode (zb 54) 49 = .ok (.iload_n 3, 1)) rfl, List.forall_mem_cons.mpr ⟨w_iadd (by decide +kernel : decode (zb 54) 50 = .ok (.iadd, 1)), List.forall_mem_cons.mpr ⟨w_iast (by decide +kernel : decode (zb 54) 51 = .ok (.iastore, 1)), List.forall_mem_cons.mpr ⟨w_aload_n (by decide +kernel : decode (zb 54) 52 = .ok (.aload_n 0, 1)) rfl, List.forall_mem_cons.mpr ⟨w_dup (by decide +kernel : decode (zb 54) 53 = .ok (.dup, 1)), List.forall_mem_cons.mpr ⟨w_gI zw54 (j := 9) zo10 (by decide +kernel) zfk_HummingSet_Wireless_55 rfl (by decide +kernel : decode (zb 54) 54 = .ok (.getfield 55, 3)), List.forall_mem_cons.mpr ⟨w_iconst (by decide +kernel : decode (zb 54) 57 = .ok (.iconst 1, 1)) rfl, List.forall_mem_cons.mpr ⟨w_iadd (by decide +kernel : decode (zb 54) 58 = .ok (.iadd, 1)), List.forall_mem_cons.mpr ⟨w_pI zw54 (j := 9) zo10 (by decide +kernel) zfk_HummingSet_Wireless_55 rfl rfl rfl (by decide +kernel : decode (zb 54) 59 = .ok (.putfield 55, 3)), List.forall_mem_cons.mpr ⟨w_iconst (by decide +kernel : decode (zb 54) 62 = .ok (.iconst 1, 1)) rfl, List.forall_mem_cons.mpr ⟨w_zr (by decide +kernel : decode (zb 54) 63 = .ok (.ireturn, 1)) rfl, fun _ h => absurd h List.not_mem_nil⟩⟩⟩⟩⟩⟩⟩⟩⟩⟩⟩⟩⟩⟩⟩⟩⟩⟩⟩⟩⟩⟩⟩⟩⟩⟩⟩⟩⟩⟩⟩⟩⟩⟩⟩⟩⟩
theorem zs54 : ∀ q ∈ zc54, zSn 54 q := zs54_0
-- HummingSet$Wireless.takeCost(II)Z
def zc55 : List (Nat × ZIns) := [(0, z_al 0 1), (1, z_il 1 1), (2, z_cV 10 47 2 1), (5, z_ifeq 18), (8, z_il 2 1), (9, z_ic 1 1), (10, z_ic 99 2), (12, z_cS 100 3 3), (15, z_ifne 20), (18, z_ic 0 1), (19, z_zr), (20, z_al 0 1), (21, z_gR 10 1), (24, z_il 1 1), (25, z_aald 25), (26, z_il 2 1), (27, z_pI 3 6), (30, z_ic 1 1), (31, z_zr)]
set_option maxRecDepth 100000 in
set_option maxHeartbeats 4000000 in
theorem zs55_0 : ∀ q ∈ ([(0, z_al 0 1), (1, z_il 1 1), (2, z_cV 10 47 2 1), (5, z_ifeq 18), (8, z_il 2 1), (9, z_ic 1 1), (10, z_ic 99 2), (12, z_cS 100 3 3), (15, z_ifne 20), (18, z_ic 0 1), (19, z_zr), (20, z_al 0 1), (21, z_gR 10 1), (24, z_il 1 1), (25, z_aald 25), (26, z_il 2 1), (27, z_pI 3 6), (30, z_ic 1 1), (31, z_zr)] : List (Nat × ZIns)), zSn 55 q := List.forall_mem_cons.mpr ⟨w_aload_n (by decide +kernel : decode (zb 55) 0 = .ok (.aload_n 0, 1)) rfl, List.forall_mem_cons.mpr ⟨w_iload_n (by decide +kernel : decode (zb 55) 1 = .ok (.iload_n 1, 1)) rfl, List.forall_mem_cons.mpr ⟨w_cV zw55 zo10 rfl rfl zin47 zse47 zca47 (by decide +kernel) (by decide +kernel) zmk_HummingSet_Wireless_106 (by decide +kernel : decode (zb 55) 2 = .ok (.invokevirtual 106, 3)), List.forall_mem_cons.mpr ⟨w_ifeq (by decide +kernel : decode (zb 55) 5 = .ok (.ifCond .eq 13, 3)) rfl, List.forall_mem_cons.mpr ⟨w_iload_n (by decide +kernel : decode (zb 55) 8 = .ok (.iload_n 2, 1)) rfl, List.forall_mem_cons.mpr ⟨w_iconst (by decide +kernel : decode (zb 55) 9 = .ok (.iconst 1, 1)) rfl, List.forall_mem_cons.mpr ⟨w_bipush (by decide +kernel : decode (zb 55) 10 = .ok (.bipush 99, 2)) rfl, List.forall_mem_cons.mpr ⟨w_cS zw55 rfl zst100 zca100 (by decide +kernel) (by decide +kernel) zmk_HummingSet_Wireless_58 (by decide +kernel : decode (zb 55) 12 = .ok (.invokestatic 58, 3)), List.forall_mem_cons.mpr ⟨w_ifne (by decide +kernel : decode (zb 55) 15 = .ok (.ifCond .ne 5, 3)) rfl, List.forall_mem_cons.mpr ⟨w_iconst (by decide +kernel : decode (zb 55) 18 = .ok (.iconst 0, 1)) rfl, List.forall_mem_cons.mpr ⟨w_zr (by decide +kernel : decode (zb 55) 19 = .ok (.ireturn, 1)) rfl, List.forall_mem_cons.mpr ⟨w_aload_n (by decide +kernel : decode (zb 55) 20 = .ok (.aload_n 0, 1)) rfl, List.forall_mem_cons.mpr ⟨w_gR zw55 (j := 1) zo10 (by decide +kernel) zfk_HummingSet_Wireless_19 rfl (by decide +kernel : decode (zb 55) 21 = .ok (.getfield 19, 3)), List.forall_mem_cons.mpr ⟨w_iload_n (by decide +kernel : decode (zb 55) 24 = .ok (.iload_n 1, 1)) rfl, List.forall_mem_cons.mpr ⟨w_aald25 (by decide +kernel : decode (zb 55) 25 = .ok (.aaload, 1)), List.forall_mem_cons.mpr ⟨w_iload_n (by decide +kernel : decode (zb 55) 26 = .ok (.iload_n 2, 1)) rfl, List.forall_mem_cons.mpr ⟨w_pI zw55 (j := 6) zo3 (by decide +kernel) zfk_HummingSet_Wireless_94 rfl rfl rfl (by decide +kernel : decode (zb 55) 27 = .ok (.putfield 94, 3)), List.forall_mem_cons.mpr ⟨w_iconst (by decide +kernel : decode (zb 55) 30 = .ok (.iconst 1, 1)) rfl, List.forall_mem_cons.mpr ⟨w_zr (by decide +kernel : decode (zb 55) 31 = .ok (.ireturn, 1)) rfl, fun _ h => absurd h List.not_mem_nil⟩⟩⟩⟩⟩⟩⟩⟩⟩⟩⟩⟩⟩⟩⟩⟩⟩⟩⟩
theorem zs55 : ∀ q ∈ zc55, zSn 55 q := zs55_0
-- HummingSet$Wireless.takeWay(III)Z
def zc56 : List (Nat × ZIns) := [(0, z_al 0 1), (1, z_gI 10 7), (4, z_ic 6 2), (6, z_ige 37), (9, z_al 0 1), (10, z_il 1 1), (11, z_cV 10 46 2 1), (14, z_ifeq 37), (17, z_il 2 1), (18, z_cS 101 1 1), (21, z_ifeq 37), (24, z_il 3 1), (25, z_ic (-200) 3), (28, z_ic 200 3), (31, z_cS 100 3 3), (34, z_ifne 39), (37, z_ic 0 1), (38, z_zr), (39, z_al 0 1), (40, z_gR 10 2), (43, z_al 0 1), (44, z_gI 10 7), (47, z_aald 26), (48, z_as 4 2), (50, z_al 4 2), (52, z_il 1 1), (53, z_pI 9 0), (56, z_al 4 2), (58, z_il 2 1), (59, z_pI 9 1), (62, z_al 4 2), (64, z_il 3 1), (65, z_pI 9 2), (68, z_al 0 1), (69, z_dup), (70, z_gI 10 7), (73, z_ic 1 1), (74, z_iadd), (75, z_pI 10 7), (78, z_ic 1 1), (79, z_zr)]
set_option maxRecDepth 100000 in
set_option maxHeartbeats 4000000 in
theorem zs56_0 : ∀ q ∈ ([(0, z_al 0 1), (1, z_gI 10 7), (4, z_ic 6 2), (6, z_ige 37), (9, z_al 0 1), (10, z_il 1 1), (11, z_cV 10 46 2 1), (14, z_ifeq 37), (17, z_il 2 1), (18, z_cS 101 1 1), (21, z_ifeq 37), (24, z_il 3 1), (25, z_ic (-200) 3), (28, z_ic 200 3), (31, z_cS 100 3 3), (34, z_ifne 39), (37, z_ic 0 1), (38, z_zr), (39, z_al 0 1), (40, z_gR 10 2), (43, z_al 0 1), (44, z_gI 10 7), (47, z_aald 26), (48, z_as 4 2), (50, z_al 4 2), (52, z_il 1 1), (53, z_pI 9 0), (56, z_al 4 2), (58, z_il 2 1), (59, z_pI 9 1), (62, z_al 4 2), (64, z_il 3 1), (65, z_pI 9 2), (68, z_al 0 1), (69, z_dup), (70, z_gI 10 7), (73, z_ic 1 1), (74, z_iadd), (75, z_pI 10 7), (78, z_ic 1 1)] : List (Nat × ZIns)), zSn 56 q := List.forall_mem_cons.mpr ⟨w_aload_n (by decide +kernel : decode (zb 56) 0 = .ok (.aload_n 0, 1)) rfl, List.forall_mem_cons.mpr ⟨w_gI zw56 (j := 7) zo10 (by decide +kernel) zfk_HummingSet_Wireless_49 rfl (by decide +kernel : decode (zb 56) 1 = .ok (.getfield 49, 3)), List.forall_mem_cons.mpr ⟨w_bipush (by decide +kernel : decode (zb 56) 4 = .ok (.bipush 6, 2)) rfl, List.forall_mem_cons.mpr ⟨w_ige (by decide +kernel : decode (zb 56) 6 = .ok (.if_icmp .ge 31, 3)) rfl, List.forall_mem_cons.mpr ⟨w_aload_n (by decide +kernel : decode (zb 56) 9 = .ok (.aload_n 0, 1)) rfl, List.forall_mem_cons.mpr ⟨w_iload_n (by decide +kernel : decode (zb 56) 10 = .ok (.iload_n 1, 1)) rfl, List.forall_mem_cons.mpr ⟨w_cV zw56 zo10 rfl rfl zin46 zse46 zca46 (by decide +kernel) (by decide +kernel) zmk_HummingSet_Wireless_75 (by decide +kernel : decode (zb 56) 11 = .ok (.invokevirtual 75, 3)), List.forall_mem_cons.mpr ⟨w_ifeq (by decide +kernel : decode (zb 56) 14 = .ok (.ifCond .eq 23, 3)) rfl, List.forall_mem_cons.mpr ⟨w_iload_n (by decide +kernel : decode (zb 56) 17 = .ok (.iload_n 2, 1)) rfl, List.forall_mem_cons.mpr ⟨w_cS zw56 rfl zst101 zca101 (by decide +kernel) (by decide +kernel) zmk_HummingSet_Wireless_109 (by decide +kernel : decode (zb 56) 18 = .ok (.invokestatic 109, 3)), List.forall_mem_cons.mpr ⟨w_ifeq (by decide +kernel : decode (zb 56) 21 = .ok (.ifCond .eq 16, 3)) rfl, List.forall_mem_cons.mpr ⟨w_iload_n (by decide +kernel : decode (zb 56) 24 = .ok (.iload_n 3, 1)) rfl, List.forall_mem_cons.mpr ⟨w_sipush (by decide +kernel : decode (zb 56) 25 = .ok (.sipush (-200), 3)) rfl, List.forall_mem_cons.mpr ⟨w_sipush (by decide +kernel : decode (zb 56) 28 = .ok (.sipush 200, 3)) rfl, List.forall_mem_cons.mpr ⟨w_cS zw56 rfl zst100 zca100 (by decide +kernel) (by decide +kernel) zmk_HummingSet_Wireless_58 (by decide +kernel : decode (zb 56) 31 = .ok (.invokestatic 58, 3)), List.forall_mem_cons.mpr ⟨w_ifne (by decide +kernel : decode (zb 56) 34 = .ok (.ifCond .ne 5, 3)) rfl, List.forall_mem_cons.mpr ⟨w_iconst (by decide +kernel : decode (zb 56) 37 = .ok (.iconst 0, 1)) rfl, List.forall_mem_cons.mpr ⟨w_zr (by decide +kernel : decode (zb 56) 38 = .ok (.ireturn, 1)) rfl, List.forall_mem_cons.mpr ⟨w_aload_n (by decide +kernel : decode (zb 56) 39 = .ok (.aload_n 0, 1)) rfl, List.forall_mem_cons.mpr ⟨w_gR zw56 (j := 2) zo10 (by decide +kernel) zfk_HummingSet_Wireless_25 rfl (by decide +kernel : decode (zb 56) 40 = .ok (.getfield 25, 3)), List.forall_mem_cons.mpr ⟨w_aload_n (by decide +kernel : decode (zb 56) 43 = .ok (.aload_n 0, 1)) rfl, List.forall_mem_cons.mpr ⟨w_gI zw56 (j := 7) zo10 (by decide +kernel) zfk_HummingSet_Wireless_49 rfl (by decide +kernel : decode (zb 56) 44 = .ok (.getfield 49, 3)), List.forall_mem_cons.mpr ⟨w_aald26 (by decide +kernel : decode (zb 56) 47 = .ok (.aaload, 1)), List.forall_mem_cons.mpr ⟨w_astore (by decide +kernel : decode (zb 56) 48 = .ok (.astore 4, 2)), List.forall_mem_cons.mpr ⟨w_aload (by decide +kernel : decode (zb 56) 50 = .ok (.aload 4, 2)), List.forall_mem_cons.mpr ⟨w_iload_n (by decide +kernel : decode (zb 56) 52 = .ok (.iload_n 1, 1)) rfl, List.forall_mem_cons.mpr ⟨w_pI zw56 (j := 0) zo9 (by decide +kernel) zfk_HummingSet_Wireless_112 rfl rfl rfl (by decide +kernel : decode (zb 56) 53 = .ok (.putfield 112, 3)), List.forall_mem_cons.mpr ⟨w_aload (by decide +kernel : decode (zb 56) 56 = .ok (.aload 4, 2)), List.forall_mem_cons.mpr ⟨w_iload_n (by decide +kernel : decode (zb 56) 58 = .ok (.iload_n 2, 1)) rfl, List.forall_mem_cons.mpr ⟨w_pI zw56 (j := 1) zo9 (by decide +kernel) zfk_HummingSet_Wireless_113 rfl rfl rfl (by decide +kernel : decode (zb 56) 59 = .ok (.putfield 113, 3)), List.forall_mem_cons.mpr ⟨w_aload (by decide +kernel : decode (zb 56) 62 = .ok (.aload 4, 2)), List.forall_mem_cons.mpr ⟨w_iload_n (by decide +kernel : decode (zb 56) 64 = .ok (.iload_n 3, 1)) rfl, List.forall_mem_cons.mpr ⟨w_pI zw56 (j := 2) zo9 (by decide +kernel) zfk_HummingSet_Wireless_116 rfl rfl rfl (by decide +kernel : decode (zb 56) 65 = .ok (.putfield 116, 3)), List.forall_mem_cons.mpr ⟨w_aload_n (by decide +kernel : decode (zb 56) 68 = .ok (.aload_n 0, 1)) rfl, List.forall_mem_cons.mpr ⟨w_dup (by decide +kernel : decode (zb 56) 69 = .ok (.dup, 1)), List.forall_mem_cons.mpr ⟨w_gI zw56 (j := 7) zo10 (by decide +kernel) zfk_HummingSet_Wireless_49 rfl (by decide +kernel : decode (zb 56) 70 = .ok (.getfield 49, 3)), List.forall_mem_cons.mpr ⟨w_iconst (by decide +kernel : decode (zb 56) 73 = .ok (.iconst 1, 1)) rfl, List.forall_mem_cons.mpr ⟨w_iadd (by decide +kernel : decode (zb 56) 74 = .ok (.iadd, 1)), List.forall_mem_cons.mpr ⟨w_pI zw56 (j := 7) zo10 (by decide +kernel) zfk_HummingSet_Wireless_49 rfl rfl rfl (by decide +kernel : decode (zb 56) 75 = .ok (.putfield 49, 3)), List.forall_mem_cons.mpr ⟨w_iconst (by decide +kernel : decode (zb 56) 78 = .ok (.iconst 1, 1)) rfl, fun _ h => absurd h List.not_mem_nil⟩⟩⟩⟩⟩⟩⟩⟩⟩⟩⟩⟩⟩⟩⟩⟩⟩⟩⟩⟩⟩⟩⟩⟩⟩⟩⟩⟩⟩⟩⟩⟩⟩⟩⟩⟩⟩⟩⟩⟩
set_option maxRecDepth 100000 in
set_option maxHeartbeats 4000000 in
theorem zs56_1 : ∀ q ∈ ([(79, z_zr)] : List (Nat × ZIns)), zSn 56 q := List.forall_mem_cons.mpr ⟨w_zr (by decide +kernel : decode (zb 56) 79 = .ok (.ireturn, 1)) rfl, fun _ h => absurd h List.not_mem_nil⟩
theorem zs56 : ∀ q ∈ zc56, zSn 56 q := List.forall_mem_append.mpr ⟨zs56_0, zs56_1⟩
-- HummingSet$Wireless.takeEar(II)Z
def zc57 : List (Nat × ZIns) := [(0, z_il 1 1), (1, z_cS 101 1 1), (4, z_ifeq 18), (7, z_il 2 1), (8, z_ic 0 1), (9, z_ic 999 3), (12, z_cS 100 3 3), (15, z_ifne 20), (18, z_ic 0 1), (19, z_zr), (20, z_al 0 1), (21, z_gR 10 3), (24, z_il 1 1), (25, z_il 2 1), (26, z_iast), (27, z_ic 1 1), (28, z_zr)]
set_option maxRecDepth 100000 in
set_option maxHeartbeats 4000000 in
theorem zs57_0 : ∀ q ∈ ([(0, z_il 1 1), (1, z_cS 101 1 1), (4, z_ifeq 18), (7, z_il 2 1), (8, z_ic 0 1), (9, z_ic 999 3), (12, z_cS 100 3 3), (15, z_ifne 20), (18, z_ic 0 1), (19, z_zr), (20, z_al 0 1), (21, z_gR 10 3), (24, z_il 1 1), (25, z_il 2 1), (26, z_iast), (27, z_ic 1 1), (28, z_zr)] : List (Nat × ZIns)), zSn 57 q := List.forall_mem_cons.mpr ⟨w_iload_n (by decide +kernel : decode (zb 57) 0 = .ok (.iload_n 1, 1)) rfl, List.forall_mem_cons.mpr ⟨w_cS zw57 rfl zst101 zca101 (by decide +kernel) (by decide +kernel) zmk_HummingSet_Wireless_109 (by decide +kernel : decode (zb 57) 1 = .ok (.invokestatic 109, 3)), List.forall_mem_cons.mpr ⟨w_ifeq (by decide +kernel : decode (zb 57) 4 = .ok (.ifCond .eq 14, 3)) rfl, List.forall_mem_cons.mpr ⟨w_iload_n (by decide +kernel : decode (zb 57) 7 = .ok (.iload_n 2, 1)) rfl, List.forall_mem_cons.mpr ⟨w_iconst (by decide +kernel : decode (zb 57) 8 = .ok (.iconst 0, 1)) rfl, List.forall_mem_cons.mpr ⟨w_sipush (by decide +kernel : decode (zb 57) 9 = .ok (.sipush 999, 3)) rfl, List.forall_mem_cons.mpr ⟨w_cS zw57 rfl zst100 zca100 (by decide +kernel) (by decide +kernel) zmk_HummingSet_Wireless_58 (by decide +kernel : decode (zb 57) 12 = .ok (.invokestatic 58, 3)), List.forall_mem_cons.mpr ⟨w_ifne (by decide +kernel : decode (zb 57) 15 = .ok (.ifCond .ne 5, 3)) rfl, List.forall_mem_cons.mpr ⟨w_iconst (by decide +kernel : decode (zb 57) 18 = .ok (.iconst 0, 1)) rfl, List.forall_mem_cons.mpr ⟨w_zr (by decide +kernel : decode (zb 57) 19 = .ok (.ireturn, 1)) rfl, List.forall_mem_cons.mpr ⟨w_aload_n (by decide +kernel : decode (zb 57) 20 = .ok (.aload_n 0, 1)) rfl, List.forall_mem_cons.mpr ⟨w_gR zw57 (j := 3) zo10 (by decide +kernel) zfk_HummingSet_Wireless_29 rfl (by decide +kernel : decode (zb 57) 21 = .ok (.getfield 29, 3)), List.forall_mem_cons.mpr ⟨w_iload_n (by decide +kernel : decode (zb 57) 24 = .ok (.iload_n 1, 1)) rfl, List.forall_mem_cons.mpr ⟨w_iload_n (by decide +kernel : decode (zb 57) 25 = .ok (.iload_n 2, 1)) rfl, List.forall_mem_cons.mpr ⟨w_iast (by decide +kernel : decode (zb 57) 26 = .ok (.iastore, 1)), List.forall_mem_cons.mpr ⟨w_iconst (by decide +kernel : decode (zb 57) 27 = .ok (.iconst 1, 1)) rfl, List.forall_mem_cons.mpr ⟨w_zr (by decide +kernel : decode (zb 57) 28 = .ok (.ireturn, 1)) rfl, fun _ h => absurd h List.not_mem_nil⟩⟩⟩⟩⟩⟩⟩⟩⟩⟩⟩⟩⟩⟩⟩⟩⟩
theorem zs57 : ∀ q ∈ zc57, zSn 57 q := zs57_0
-- HummingSet$Wireless.takeYearly(II)Z
def zc58 : List (Nat × ZIns) := [(0, z_il 1 1), (1, z_ic 0 1), (2, z_ic 4 1), (3, z_cS 100 3 3), (6, z_ifeq 19), (9, z_il 2 1), (10, z_ic 0 1), (11, z_ic 50 2), (13, z_cS 100 3 3), (16, z_ifne 21), (19, z_ic 0 1), (20, z_zr), (21, z_al 0 1), (22, z_gR 10 4), (25, z_il 1 1), (26, z_il 2 1), (27, z_iast), (28, z_ic 1 1), (29, z_zr)]
set_option maxRecDepth 100000 in
set_option maxHeartbeats 4000000 in
theorem zs58_0 : ∀ q ∈ ([(0, z_il 1 1), (1, z_ic 0 1), (2, z_ic 4 1), (3, z_cS 100 3 3), (6, z_ifeq 19), (9, z_il 2 1), (10, z_ic 0 1), (11, z_ic 50 2), (13, z_cS 100 3 3), (16, z_ifne 21), (19, z_ic 0 1), (20, z_zr), (21, z_al 0 1), (22, z_gR 10 4), (25, z_il 1 1), (26, z_il 2 1), (27, z_iast), (28, z_ic 1 1), (29, z_zr)] : List (Nat × ZIns)), zSn 58 q := List.forall_mem_cons.mpr ⟨w_iload_n (by decide +kernel : decode (zb 58) 0 = .ok (.iload_n 1, 1)) rfl, List.forall_mem_cons.mpr ⟨w_iconst (by decide +kernel : decode (zb 58) 1 = .ok (.iconst 0, 1)) rfl, List.forall_mem_cons.mpr ⟨w_iconst (by decide +kernel : decode (zb 58) 2 = .ok (.iconst 4, 1)) rfl, List.forall_mem_cons.mpr ⟨w_cS zw58 rfl zst100 zca100 (by decide +kernel) (by decide +kernel) zmk_HummingSet_Wireless_58 (by decide +kernel : decode (zb 58) 3 = .ok (.invokestatic 58, 3)), List.forall_mem_cons.mpr ⟨w_ifeq (by decide +kernel : decode (zb 58) 6 = .ok (.ifCond .eq 13, 3)) rfl, List.forall_mem_cons.mpr ⟨w_iload_n (by decide +kernel : decode (zb 58) 9 = .ok (.iload_n 2, 1)) rfl, List.forall_mem_cons.mpr ⟨w_iconst (by decide +kernel : decode (zb 58) 10 = .ok (.iconst 0, 1)) rfl, List.forall_mem_cons.mpr ⟨w_bipush (by decide +kernel : decode (zb 58) 11 = .ok (.bipush 50, 2)) rfl, List.forall_mem_cons.mpr ⟨w_cS zw58 rfl zst100 zca100 (by decide +kernel) (by decide +kernel) zmk_HummingSet_Wireless_58 (by decide +kernel : decode (zb 58) 13 = .ok (.invokestatic 58, 3)), List.forall_mem_cons.mpr ⟨w_ifne (by decide +kernel : decode (zb 58) 16 = .ok (.ifCond .ne 5, 3)) rfl, List.forall_mem_cons.mpr ⟨w_iconst (by decide +kernel : decode (zb 58) 19 = .ok (.iconst 0, 1)) rfl, List.forall_mem_cons.mpr ⟨w_zr (by decide +kernel : decode (zb 58) 20 = .ok (.ireturn, 1)) rfl, List.forall_mem_cons.mpr ⟨w_aload_n (by decide +kernel : decode (zb 58) 21 = .ok (.aload_n 0, 1)) rfl, List.forall_mem_cons.mpr ⟨w_gR zw58 (j := 4) zo10 (by decide +kernel) zfk_HummingSet_Wireless_33 rfl (by decide +kernel : decode (zb 58) 22 = .ok (.getfield 33, 3)), List.forall_mem_cons.mpr ⟨w_iload_n (by decide +kernel : decode (zb 58) 25 = .ok (.iload_n 1, 1)) rfl, List.forall_mem_cons.mpr ⟨w_iload_n (by decide +kernel : decode (zb 58) 26 = .ok (.iload_n 2, 1)) rfl, List.forall_mem_cons.mpr ⟨w_iast (by decide +kernel : decode (zb 58) 27 = .ok (.iastore, 1)), List.forall_mem_cons.mpr ⟨w_iconst (by decide +kernel : decode (zb 58) 28 = .ok (.iconst 1, 1)) rfl, List.forall_mem_cons.mpr ⟨w_zr (by decide +kernel : decode (zb 58) 29 = .ok (.ireturn, 1)) rfl, fun _ h => absurd h List.not_mem_nil⟩⟩⟩⟩⟩⟩⟩⟩⟩⟩⟩⟩⟩⟩⟩⟩⟩⟩⟩
theorem zs58 : ∀ q ∈ zc58, zSn 58 q := zs58_0
-- HummingSet$Wireless.takeVolts(III)Z
def zc59 : List (Nat × ZIns) := [(0, z_al 0 1), (1, z_il 1 1), (2, z_cV 10 47 2 1), (5, z_ifeq 29), (8, z_il 2 1), (9, z_ic 0 1), (10, z_ic 900 3), (13, z_cS 100 3 3), (16, z_ifeq 29), (19, z_il 3 1), (20, z_ic 1 1), (21, z_ic 99 2), (23, z_cS 100 3 3), (26, z_ifne 31), (29, z_ic 0 1), (30, z_zr), (31, z_al 0 1), (32, z_gR 10 1), (35, z_il 1 1), (36, z_aald 25), (37, z_il 2 1), (38, z_pI 3 7), (41, z_al 0 1), (42, z_gR 10 1), (45, z_il 1 1), (46, z_aald 25), (47, z_il 3 1), (48, z_pI 3 8), (51, z_ic 1 1), (52, z_zr)]
set_option maxRecDepth 100000 in
set_option maxHeartbeats 4000000 in
theorem zs59_0 : ∀ q ∈ ([(0, z_al 0 1), (1, z_il 1 1), (2, z_cV 10 47 2 1), (5, z_ifeq 29), (8, z_il 2 1), (9, z_ic 0 1), (10, z_ic 900 3), (13, z_cS 100 3 3), (16, z_ifeq 29), (19, z_il 3 1), (20, z_ic 1 1), (21, z_ic 99 2), (23, z_cS 100 3 3), (26, z_ifne 31), (29, z_ic 0 1), (30, z_zr), (31, z_al 0 1), (32, z_gR 10 1), (35, z_il 1 1), (36, z_aald 25), (37, z_il 2 1), (38, z_pI 3 7), (41, z_al 0 1), (42, z_gR 10 1), (45, z_il 1 1), (46, z_aald 25), (47, z_il 3 1), (48, z_pI 3 8), (51, z_ic 1 1), (52, z_zr)] : List (Nat × ZIns)), zSn 59 q := List.forall_mem_cons.mpr ⟨w_aload_n (by decide +kernel : decode (zb 59) 0 = .ok (.aload_n 0, 1)) rfl, List.forall_mem_cons.mpr ⟨w_iload_n (by decide +kernel : decode (zb 59) 1 = .ok (.iload_n 1, 1)) rfl, List.forall_mem_cons.mpr ⟨w_cV zw59 zo10 rfl rfl zin47 zse47 zca47 (by decide +kernel) (by decide +kernel) zmk_HummingSet_Wireless_106 (by decide +kernel : decode (zb 59) 2 = .ok (.invokevirtual 106, 3)), List.forall_mem_cons.mpr ⟨w_ifeq (by decide +kernel : decode (zb 59) 5 = .ok (.ifCond .eq 24, 3)) rfl, List.forall_mem_cons.mpr ⟨w_iload_n (by decide +kernel : decode (zb 59) 8 = .ok (.iload_n 2, 1)) rfl, List.forall_mem_cons.mpr ⟨w_iconst (by decide +kernel : decode (zb 59) 9 = .ok (.iconst 0, 1)) rfl, List.forall_mem_cons.mpr ⟨w_sipush (by decide +kernel : decode (zb 59) 10 = .ok (.sipush 900, 3)) rfl, List.forall_mem_cons.mpr ⟨w_cS zw59 rfl zst100 zca100 (by decide +kernel) (by decide +kernel) zmk_HummingSet_Wireless_58 (by decide +kernel : decode (zb 59) 13 = .ok (.invokestatic 58, 3)), List.forall_mem_cons.mpr ⟨w_ifeq (by decide +kernel : decode (zb 59) 16 = .ok (.ifCond .eq 13, 3)) rfl, List.forall_mem_cons.mpr ⟨w_iload_n (by decide +kernel : decode (zb 59) 19 = .ok (.iload_n 3, 1)) rfl, List.forall_mem_cons.mpr ⟨w_iconst (by decide +kernel : decode (zb 59) 20 = .ok (.iconst 1, 1)) rfl, List.forall_mem_cons.mpr ⟨w_bipush (by decide +kernel : decode (zb 59) 21 = .ok (.bipush 99, 2)) rfl, List.forall_mem_cons.mpr ⟨w_cS zw59 rfl zst100 zca100 (by decide +kernel) (by decide +kernel) zmk_HummingSet_Wireless_58 (by decide +kernel : decode (zb 59) 23 = .ok (.invokestatic 58, 3)), List.forall_mem_cons.mpr ⟨w_ifne (by decide +kernel : decode (zb 59) 26 = .ok (.ifCond .ne 5, 3)) rfl, List.forall_mem_cons.mpr ⟨w_iconst (by decide +kernel : decode (zb 59) 29 = .ok (.iconst 0, 1)) rfl, List.forall_mem_cons.mpr ⟨w_zr (by decide +kernel : decode (zb 59) 30 = .ok (.ireturn, 1)) rfl, List.forall_mem_cons.mpr ⟨w_aload_n (by decide +kernel : decode (zb 59) 31 = .ok (.aload_n 0, 1)) rfl, List.forall_mem_cons.mpr ⟨w_gR zw59 (j := 1) zo10 (by decide +kernel) zfk_HummingSet_Wireless_19 rfl (by decide +kernel : decode (zb 59) 32 = .ok (.getfield 19, 3)), List.forall_mem_cons.mpr ⟨w_iload_n (by decide +kernel : decode (zb 59) 35 = .ok (.iload_n 1, 1)) rfl, List.forall_mem_cons.mpr ⟨w_aald25 (by decide +kernel : decode (zb 59) 36 = .ok (.aaload, 1)), List.forall_mem_cons.mpr ⟨w_iload_n (by decide +kernel : decode (zb 59) 37 = .ok (.iload_n 2, 1)) rfl, List.forall_mem_cons.mpr ⟨w_pI zw59 (j := 7) zo3 (by decide +kernel) zfk_HummingSet_Wireless_97 rfl rfl rfl (by decide +kernel : decode (zb 59) 38 = .ok (.putfield 97, 3)), List.forall_mem_cons.mpr ⟨w_aload_n (by decide +kernel : decode (zb 59) 41 = .ok (.aload_n 0, 1)) rfl, List.forall_mem_cons.mpr ⟨w_gR zw59 (j := 1) zo10 (by decide +kernel) zfk_HummingSet_Wireless_19 rfl (by decide +kernel : decode (zb 59) 42 = .ok (.getfield 19, 3)), List.forall_mem_cons.mpr ⟨w_iload_n (by decide +kernel : decode (zb 59) 45 = .ok (.iload_n 1, 1)) rfl, List.forall_mem_cons.mpr ⟨w_aald25 (by decide +kernel : decode (zb 59) 46 = .ok (.aaload, 1)), List.forall_mem_cons.mpr ⟨w_iload_n (by decide +kernel : decode (zb 59) 47 = .ok (.iload_n 3, 1)) rfl, List.forall_mem_cons.mpr ⟨w_pI zw59 (j := 8) zo3 (by decide +kernel) zfk_HummingSet_Wireless_100 rfl rfl rfl (by decide +kernel : decode (zb 59) 48 = .ok (.putfield 100, 3)), List.forall_mem_cons.mpr ⟨w_iconst (by decide +kernel : decode (zb 59) 51 = .ok (.iconst 1, 1)) rfl, List.forall_mem_cons.mpr ⟨w_zr (by decide +kernel : decode (zb 59) 52 = .ok (.ireturn, 1)) rfl, fun _ h => absurd h List.not_mem_nil⟩⟩⟩⟩⟩⟩⟩⟩⟩⟩⟩⟩⟩⟩⟩⟩⟩⟩⟩⟩⟩⟩⟩⟩⟩⟩⟩⟩⟩⟩
theorem zs59 : ∀ q ∈ zc59, zSn 59 q := zs59_0
-- HummingSet$Wireless.riskOf(II)I
def zc60 : List (Nat × ZIns) := [(0, z_il 1 1), (1, z_ic 1 1), (2, z_ine 19), (5, z_al 0 1), (6, z_il 2 1), (7, z_cV 10 61 5 1), (10, z_ifeq 17), (13, z_ic 1 1), (14, z_goto 18), (17, z_ic 0 1), (18, z_ir), (19, z_il 1 1), (20, z_ic 2 1), (21, z_ieq 29), (24, z_il 1 1), (25, z_ic 4 1), (26, z_ine 43), (29, z_al 0 1), (30, z_il 2 1), (31, z_cV 10 62 3 1), (34, z_ifeq 41), (37, z_ic 1 1), (38, z_goto 42), (41, z_ic 0 1), (42, z_ir), (43, z_ic 0 1), (44, z_ir)]
set_option maxRecDepth 100000 in
set_option maxHeartbeats 4000000 in
theorem zs60_0 : ∀ q ∈ ([(0, z_il 1 1), (1, z_ic 1 1), (2, z_ine 19), (5, z_al 0 1), (6, z_il 2 1), (7, z_cV 10 61 5 1), (10, z_ifeq 17), (13, z_ic 1 1), (14, z_goto 18), (17, z_ic 0 1), (18, z_ir), (19, z_il 1 1), (20, z_ic 2 1), (21, z_ieq 29), (24, z_il 1 1), (25, z_ic 4 1), (26, z_ine 43), (29, z_al 0 1), (30, z_il 2 1), (31, z_cV 10 62 3 1), (34, z_ifeq 41), (37, z_ic 1 1), (38, z_goto 42), (41, z_ic 0 1), (42, z_ir), (43, z_ic 0 1), (44, z_ir)] : List (Nat × ZIns)), zSn 60 q := List.forall_mem_cons.mpr ⟨w_iload_n (by decide +kernel : decode (zb 60) 0 = .ok (.iload_n 1, 1)) rfl, List.forall_mem_cons.mpr ⟨w_iconst (by decide +kernel : decode (zb 60) 1 = .ok (.iconst 1, 1)) rfl, List.forall_mem_cons.mpr ⟨w_ine (by decide +kernel : decode (zb 60) 2 = .ok (.if_icmp .ne 17, 3)) rfl, List.forall_mem_cons.mpr ⟨w_aload_n (by decide +kernel : decode (zb 60) 5 = .ok (.aload_n 0, 1)) rfl, List.forall_mem_cons.mpr ⟨w_iload_n (by decide +kernel : decode (zb 60) 6 = .ok (.iload_n 2, 1)) rfl, List.forall_mem_cons.mpr ⟨w_cV zw60 zo10 rfl rfl zin61 zse61 zca61 (by decide +kernel) (by decide +kernel) zmk_HummingSet_Wireless_119 (by decide +kernel : decode (zb 60) 7 = .ok (.invokevirtual 119, 3)), List.forall_mem_cons.mpr ⟨w_ifeq (by decide +kernel : decode (zb 60) 10 = .ok (.ifCond .eq 7, 3)) rfl, List.forall_mem_cons.mpr ⟨w_iconst (by decide +kernel : decode (zb 60) 13 = .ok (.iconst 1, 1)) rfl, List.forall_mem_cons.mpr ⟨w_goto (by decide +kernel : decode (zb 60) 14 = .ok (.goto 4, 3)) rfl, List.forall_mem_cons.mpr ⟨w_iconst (by decide +kernel : decode (zb 60) 17 = .ok (.iconst 0, 1)) rfl, List.forall_mem_cons.mpr ⟨w_ir (by decide +kernel : decode (zb 60) 18 = .ok (.ireturn, 1)) rfl, List.forall_mem_cons.mpr ⟨w_iload_n (by decide +kernel : decode (zb 60) 19 = .ok (.iload_n 1, 1)) rfl, List.forall_mem_cons.mpr ⟨w_iconst (by decide +kernel : decode (zb 60) 20 = .ok (.iconst 2, 1)) rfl, List.forall_mem_cons.mpr ⟨w_ieq (by decide +kernel : decode (zb 60) 21 = .ok (.if_icmp .eq 8, 3)) rfl, List.forall_mem_cons.mpr ⟨w_iload_n (by decide +kernel : decode (zb 60) 24 = .ok (.iload_n 1, 1)) rfl, List.forall_mem_cons.mpr ⟨w_iconst (by decide +kernel : decode (zb 60) 25 = .ok (.iconst 4, 1)) rfl, List.forall_mem_cons.mpr ⟨w_ine (by decide +kernel : decode (zb 60) 26 = .ok (.if_icmp .ne 17, 3)) rfl, List.forall_mem_cons.mpr ⟨w_aload_n (by decide +kernel : decode (zb 60) 29 = .ok (.aload_n 0, 1)) rfl, List.forall_mem_cons.mpr ⟨w_iload_n (by decide +kernel : decode (zb 60) 30 = .ok (.iload_n 2, 1)) rfl, List.forall_mem_cons.mpr ⟨w_cV zw60 zo10 rfl rfl zin62 zse62 zca62 (by decide +kernel) (by decide +kernel) zmk_HummingSet_Wireless_122 (by decide +kernel : decode (zb 60) 31 = .ok (.invokevirtual 122, 3)), List.forall_mem_cons.mpr ⟨w_ifeq (by decide +kernel : decode (zb 60) 34 = .ok (.ifCond .eq 7, 3)) rfl, List.forall_mem_cons.mpr ⟨w_iconst (by decide +kernel : decode (zb 60) 37 = .ok (.iconst 1, 1)) rfl, List.forall_mem_cons.mpr ⟨w_goto (by decide +kernel : decode (zb 60) 38 = .ok (.goto 4, 3)) rfl, List.forall_mem_cons.mpr ⟨w_iconst (by decide +kernel : decode (zb 60) 41 = .ok (.iconst 0, 1)) rfl, List.forall_mem_cons.mpr ⟨w_ir (by decide +kernel : decode (zb 60) 42 = .ok (.ireturn, 1)) rfl, List.forall_mem_cons.mpr ⟨w_iconst (by decide +kernel : decode (zb 60) 43 = .ok (.iconst 0, 1)) rfl, List.forall_mem_cons.mpr ⟨w_ir (by decide +kernel : decode (zb 60) 44 = .ok (.ireturn, 1)) rfl, fun _ h => absurd h List.not_mem_nil⟩⟩⟩⟩⟩⟩⟩⟩⟩⟩⟩⟩⟩⟩⟩⟩⟩⟩⟩⟩⟩⟩⟩⟩⟩⟩⟩
theorem zs60 : ∀ q ∈ zc60, zSn 60 q := zs60_0
-- HummingSet$Wireless.someBearsTooMuch(I)Z
def zc61 : List (Nat × ZIns) := [(0, z_al 0 1), (1, z_gI 10 5), (4, z_ic 1 1), (5, z_isub), (6, z_is 2 1), (7, z_il 2 1), (8, z_ifle 19), (11, z_al 0 1), (12, z_il 1 1), (13, z_cV 10 46 2 1), (16, z_ifne 21), (19, z_ic 0 1), (20, z_zr), (21, z_al 0 1), (22, z_gR 10 0), (25, z_il 1 1), (26, z_aald 24), (27, z_gI 7 1), (30, z_il 2 1), (31, z_idiv), (32, z_is 3 1), (33, z_ic 0 1), (34, z_is 4 2), (36, z_il 4 2), (38, z_al 0 1), (39, z_gI 10 5), (42, z_ige 84), (45, z_il 4 2), (47, z_il 1 1), (48, z_ieq 78), (51, z_al 0 1), (52, z_gR 10 0), (55, z_il 4 2), (57, z_aald 24), (58, z_gI 7 1), (61, z_il 3 1), (62, z_iadd), (63, z_al 0 1), (64, z_gR 10 0), (67, z_il 4 2), (69, z_aald 24), (70, z_gI 7 2), (73, z_ile 78), (76, z_ic 1 1), (77, z_zr), (78, z_inc 4 1), (81, z_goto 36), (84, z_ic 0 1), (85, z_zr)]
set_option maxRecDepth 100000 in
set_option maxHeartbeats 4000000 in
theorem zs61_0 : ∀ q ∈ ([(0, z_al 0 1), (1, z_gI 10 5), (4, z_ic 1 1), (5, z_isub), (6, z_is 2 1), (7, z_il 2 1), (8, z_ifle 19), (11, z_al 0 1), (12, z_il 1 1), (13, z_cV 10 46 2 1), (16, z_ifne 21), (19, z_ic 0 1), (20, z_zr), (21, z_al 0 1), (22, z_gR 10 0), (25, z_il 1 1), (26, z_aald 24), (27, z_gI 7 1), (30, z_il 2 1), (31, z_idiv), (32, z_is 3 1), (33, z_ic 0 1), (34, z_is 4 2), (36, z_il 4 2), (38, z_al 0 1), (39, z_gI 10 5), (42, z_ige 84), (45, z_il 4 2), (47, z_il 1 1), (48, z_ieq 78), (51, z_al 0 1), (52, z_gR 10 0), (55, z_il 4 2), (57, z_aald 24), (58, z_gI 7 1), (61, z_il 3 1), (62, z_iadd), (63, z_al 0 1), (64, z_gR 10 0), (67, z_il 4 2)] : List (Nat × ZIns)), zSn 61 q := List.forall_mem_cons.mpr ⟨w_aload_n (by decide +kernel : decode (zb 61) 0 = .ok (.aload_n 0, 1)) rfl, List.forall_mem_cons.mpr ⟨w_gI zw61 (j := 5) zo10 (by decide +kernel) zfk_HummingSet_Wireless_42 rfl (by decide +kernel : decode (zb 61) 1 = .ok (.getfield 42, 3)), List.forall_mem_cons.mpr ⟨w_iconst (by decide +kernel : decode (zb 61) 4 = .ok (.iconst 1, 1)) rfl, List.forall_mem_cons.mpr ⟨w_isub (by decide +kernel : decode (zb 61) 5 = .ok (.isub, 1)), List.forall_mem_cons.mpr ⟨w_istore_n (by decide +kernel : decode (zb 61) 6 = .ok (.istore_n 2, 1)) rfl, List.forall_mem_cons.mpr ⟨w_iload_n (by decide +kernel : decode (zb 61) 7 = .ok (.iload_n 2, 1)) rfl, List.forall_mem_cons.mpr ⟨w_ifle (by decide +kernel : decode (zb 61) 8 = .ok (.ifCond .le 11, 3)) rfl, List.forall_mem_cons.mpr ⟨w_aload_n (by decide +kernel : decode (zb 61) 11 = .ok (.aload_n 0, 1)) rfl, List.forall_mem_cons.mpr ⟨w_iload_n (by decide +kernel : decode (zb 61) 12 = .ok (.iload_n 1, 1)) rfl, List.forall_mem_cons.mpr ⟨w_cV zw61 zo10 rfl rfl zin46 zse46 zca46 (by decide +kernel) (by decide +kernel) zmk_HummingSet_Wireless_75 (by decide +kernel : decode (zb 61) 13 = .ok (.invokevirtual 75, 3)), List.forall_mem_cons.mpr ⟨w_ifne (by decide +kernel : decode (zb 61) 16 = .ok (.ifCond .ne 5, 3)) rfl, List.forall_mem_cons.mpr ⟨w_iconst (by decide +kernel : decode (zb 61) 19 = .ok (.iconst 0, 1)) rfl, List.forall_mem_cons.mpr ⟨w_zr (by decide +kernel : decode (zb 61) 20 = .ok (.ireturn, 1)) rfl, List.forall_mem_cons.mpr ⟨w_aload_n (by decide +kernel : decode (zb 61) 21 = .ok (.aload_n 0, 1)) rfl, List.forall_mem_cons.mpr ⟨w_gR zw61 (j := 0) zo10 (by decide +kernel) zfk_HummingSet_Wireless_11 rfl (by decide +kernel : decode (zb 61) 22 = .ok (.getfield 11, 3)), List.forall_mem_cons.mpr ⟨w_iload_n (by decide +kernel : decode (zb 61) 25 = .ok (.iload_n 1, 1)) rfl, List.forall_mem_cons.mpr ⟨w_aald24 (by decide +kernel : decode (zb 61) 26 = .ok (.aaload, 1)), List.forall_mem_cons.mpr ⟨w_gI zw61 (j := 1) zo7 (by decide +kernel) zfk_HummingSet_Wireless_66 rfl (by decide +kernel : decode (zb 61) 27 = .ok (.getfield 66, 3)), List.forall_mem_cons.mpr ⟨w_iload_n (by decide +kernel : decode (zb 61) 30 = .ok (.iload_n 2, 1)) rfl, List.forall_mem_cons.mpr ⟨w_idiv (by decide +kernel : decode (zb 61) 31 = .ok (.idiv, 1)), List.forall_mem_cons.mpr ⟨w_istore_n (by decide +kernel : decode (zb 61) 32 = .ok (.istore_n 3, 1)) rfl, List.forall_mem_cons.mpr ⟨w_iconst (by decide +kernel : decode (zb 61) 33 = .ok (.iconst 0, 1)) rfl, List.forall_mem_cons.mpr ⟨w_istore (by decide +kernel : decode (zb 61) 34 = .ok (.istore 4, 2)), List.forall_mem_cons.mpr ⟨w_iload (by decide +kernel : decode (zb 61) 36 = .ok (.iload 4, 2)), List.forall_mem_cons.mpr ⟨w_aload_n (by decide +kernel : decode (zb 61) 38 = .ok (.aload_n 0, 1)) rfl, List.forall_mem_cons.mpr ⟨w_gI zw61 (j := 5) zo10 (by decide +kernel) zfk_HummingSet_Wireless_42 rfl (by decide +kernel : decode (zb 61) 39 = .ok (.getfield 42, 3)), List.forall_mem_cons.mpr ⟨w_ige (by decide +kernel : decode (zb 61) 42 = .ok (.if_icmp .ge 42, 3)) rfl, List.forall_mem_cons.mpr ⟨w_iload (by decide +kernel : decode (zb 61) 45 = .ok (.iload 4, 2)), List.forall_mem_cons.mpr ⟨w_iload_n (by decide +kernel : decode (zb 61) 47 = .ok (.iload_n 1, 1)) rfl, List.forall_mem_cons.mpr ⟨w_ieq (by decide +kernel : decode (zb 61) 48 = .ok (.if_icmp .eq 30, 3)) rfl, List.forall_mem_cons.mpr ⟨w_aload_n (by decide +kernel : decode (zb 61) 51 = .ok (.aload_n 0, 1)) rfl, List.forall_mem_cons.mpr ⟨w_gR zw61 (j := 0) zo10 (by decide +kernel) zfk_HummingSet_Wireless_11 rfl (by decide +kernel : decode (zb 61) 52 = .ok (.getfield 11, 3)), List.forall_mem_cons.mpr ⟨w_iload (by decide +kernel : decode (zb 61) 55 = .ok (.iload 4, 2)), List.forall_mem_cons.mpr ⟨w_aald24 (by decide +kernel : decode (zb 61) 57 = .ok (.aaload, 1)), List.forall_mem_cons.mpr ⟨w_gI zw61 (j := 1) zo7 (by decide +kernel) zfk_HummingSet_Wireless_66 rfl (by decide +kernel : decode (zb 61) 58 = .ok (.getfield 66, 3)), List.forall_mem_cons.mpr ⟨w_iload_n (by decide +kernel : decode (zb 61) 61 = .ok (.iload_n 3, 1)) rfl, List.forall_mem_cons.mpr ⟨w_iadd (by decide +kernel : decode (zb 61) 62 = .ok (.iadd, 1)), List.forall_mem_cons.mpr ⟨w_aload_n (by decide +kernel : decode (zb 61) 63 = .ok (.aload_n 0, 1)) rfl, List.forall_mem_cons.mpr ⟨w_gR zw61 (j := 0) zo10 (by decide +kernel) zfk_HummingSet_Wireless_11 rfl (by decide +kernel : decode (zb 61) 64 = .ok (.getfield 11, 3)), List.forall_mem_cons.mpr ⟨w_iload (by decide +kernel : decode (zb 61) 67 = .ok (.iload 4, 2)), fun _ h => absurd h List.not_mem_nil⟩⟩⟩⟩⟩⟩⟩⟩⟩⟩⟩⟩⟩⟩⟩⟩⟩⟩⟩⟩⟩⟩⟩⟩⟩⟩⟩⟩⟩⟩⟩⟩⟩⟩⟩⟩⟩⟩⟩⟩
set_option maxRecDepth 100000 in
set_option maxHeartbeats 4000000 in
theorem zs61_1 : ∀ q ∈ ([(69, z_aald 24), (70, z_gI 7 2), (73, z_ile 78), (76, z_ic 1 1), (77, z_zr), (78, z_inc 4 1), (81, z_goto 36), (84, z_ic 0 1), (85, z_zr)] : List (Nat × ZIns)), zSn 61 q := List.forall_mem_cons.mpr ⟨w_aald24 (by decide +kernel : decode (zb 61) 69 = .ok (.aaload, 1)), List.forall_mem_cons.mpr ⟨w_gI zw61 (j := 2) zo7 (by decide +kernel) zfk_HummingSet_Wireless_69 rfl (by decide +kernel : decode (zb 61) 70 = .ok (.getfield 69, 3)), List.forall_mem_cons.mpr ⟨w_ile (by decide +kernel : decode (zb 61) 73 = .ok (.if_icmp .le 5, 3)) rfl, List.forall_mem_cons.mpr ⟨w_iconst (by decide +kernel : decode (zb 61) 76 = .ok (.iconst 1, 1)) rfl, List.forall_mem_cons.mpr ⟨w_zr (by decide +kernel : decode (zb 61) 77 = .ok (.ireturn, 1)) rfl, List.forall_mem_cons.mpr ⟨w_iinc (by decide +kernel : decode (zb 61) 78 = .ok (.iinc 4 1, 3)) rfl, List.forall_mem_cons.mpr ⟨w_goto (by decide +kernel : decode (zb 61) 81 = .ok (.goto (-45), 3)) rfl, List.forall_mem_cons.mpr ⟨w_iconst (by decide +kernel : decode (zb 61) 84 = .ok (.iconst 0, 1)) rfl, List.forall_mem_cons.mpr ⟨w_zr (by decide +kernel : decode (zb 61) 85 = .ok (.ireturn, 1)) rfl, fun _ h => absurd h List.not_mem_nil⟩⟩⟩⟩⟩⟩⟩⟩⟩
theorem zs61 : ∀ q ∈ zc61, zSn 61 q := List.forall_mem_append.mpr ⟨zs61_0, zs61_1⟩
-- HummingSet$Wireless.someHoldsMuch(I)Z
def zc62 : List (Nat × ZIns) := [(0, z_ic 0 1), (1, z_is 2 1), (2, z_il 2 1), (3, z_al 0 1), (4, z_gI 10 6), (7, z_ige 46), (10, z_al 0 1), (11, z_gR 10 1), (14, z_il 2 1), (15, z_aald 25), (16, z_gI 3 1), (19, z_il 1 1), (20, z_ine 40), (23, z_al 0 1), (24, z_gR 10 1), (27, z_il 2 1), (28, z_aald 25), (29, z_gI 3 7), (32, z_ic 300 3), (35, z_ilt 40), (38, z_ic 1 1), (39, z_zr), (40, z_inc 2 1), (43, z_goto 2), (46, z_ic 0 1), (47, z_zr)]
set_option maxRecDepth 100000 in
set_option maxHeartbeats 4000000 in
theorem zs62_0 : ∀ q ∈ ([(0, z_ic 0 1), (1, z_is 2 1), (2, z_il 2 1), (3, z_al 0 1), (4, z_gI 10 6), (7, z_ige 46), (10, z_al 0 1), (11, z_gR 10 1), (14, z_il 2 1), (15, z_aald 25), (16, z_gI 3 1), (19, z_il 1 1), (20, z_ine 40), (23, z_al 0 1), (24, z_gR 10 1), (27, z_il 2 1), (28, z_aald 25), (29, z_gI 3 7), (32, z_ic 300 3), (35, z_ilt 40), (38, z_ic 1 1), (39, z_zr), (40, z_inc 2 1), (43, z_goto 2), (46, z_ic 0 1), (47, z_zr)] : List (Nat × ZIns)), zSn 62 q := List.forall_mem_cons.mpr ⟨w_iconst (by decide +kernel : decode (zb 62) 0 = .ok (.iconst 0, 1)) rfl, List.forall_mem_cons.mpr ⟨w_istore_n (by decide +kernel : decode (zb 62) 1 = .ok (.istore_n 2, 1)) rfl, List.forall_mem_cons.mpr ⟨w_iload_n (by decide +kernel : decode (zb 62) 2 = .ok (.iload_n 2, 1)) rfl, List.forall_mem_cons.mpr ⟨w_aload_n (by decide +kernel : decode (zb 62) 3 = .ok (.aload_n 0, 1)) rfl, List.forall_mem_cons.mpr ⟨w_gI zw62 (j := 6) zo10 (by decide +kernel) zfk_HummingSet_Wireless_46 rfl (by decide +kernel : decode (zb 62) 4 = .ok (.getfield 46, 3)), List.forall_mem_cons.mpr ⟨w_ige (by decide +kernel : decode (zb 62) 7 = .ok (.if_icmp .ge 39, 3)) rfl, List.forall_mem_cons.mpr ⟨w_aload_n (by decide +kernel : decode (zb 62) 10 = .ok (.aload_n 0, 1)) rfl, List.forall_mem_cons.mpr ⟨w_gR zw62 (j := 1) zo10 (by decide +kernel) zfk_HummingSet_Wireless_19 rfl (by decide +kernel : decode (zb 62) 11 = .ok (.getfield 19, 3)), List.forall_mem_cons.mpr ⟨w_iload_n (by decide +kernel : decode (zb 62) 14 = .ok (.iload_n 2, 1)) rfl, List.forall_mem_cons.mpr ⟨w_aald25 (by decide +kernel : decode (zb 62) 15 = .ok (.aaload, 1)), List.forall_mem_cons.mpr ⟨w_gI zw62 (j := 1) zo3 (by decide +kernel) zfk_HummingSet_Wireless_79 rfl (by decide +kernel : decode (zb 62) 16 = .ok (.getfield 79, 3)), List.forall_mem_cons.mpr ⟨w_iload_n (by decide +kernel : decode (zb 62) 19 = .ok (.iload_n 1, 1)) rfl, List.forall_mem_cons.mpr ⟨w_ine (by decide +kernel : decode (zb 62) 20 = .ok (.if_icmp .ne 20, 3)) rfl, List.forall_mem_cons.mpr ⟨w_aload_n (by decide +kernel : decode (zb 62) 23 = .ok (.aload_n 0, 1)) rfl, List.forall_mem_cons.mpr ⟨w_gR zw62 (j := 1) zo10 (by decide +kernel) zfk_HummingSet_Wireless_19 rfl (by decide +kernel : decode (zb 62) 24 = .ok (.getfield 19, 3)), List.forall_mem_cons.mpr ⟨w_iload_n (by decide +kernel : decode (zb 62) 27 = .ok (.iload_n 2, 1)) rfl, List.forall_mem_cons.mpr ⟨w_aald25 (by decide +kernel : decode (zb 62) 28 = .ok (.aaload, 1)), List.forall_mem_cons.mpr ⟨w_gI zw62 (j := 7) zo3 (by decide +kernel) zfk_HummingSet_Wireless_97 rfl (by decide +kernel : decode (zb 62) 29 = .ok (.getfield 97, 3)), List.forall_mem_cons.mpr ⟨w_sipush (by decide +kernel : decode (zb 62) 32 = .ok (.sipush 300, 3)) rfl, List.forall_mem_cons.mpr ⟨w_ilt (by decide +kernel : decode (zb 62) 35 = .ok (.if_icmp .lt 5, 3)) rfl, List.forall_mem_cons.mpr ⟨w_iconst (by decide +kernel : decode (zb 62) 38 = .ok (.iconst 1, 1)) rfl, List.forall_mem_cons.mpr ⟨w_zr (by decide +kernel : decode (zb 62) 39 = .ok (.ireturn, 1)) rfl, List.forall_mem_cons.mpr ⟨w_iinc (by decide +kernel : decode (zb 62) 40 = .ok (.iinc 2 1, 3)) rfl, List.forall_mem_cons.mpr ⟨w_goto (by decide +kernel : decode (zb 62) 43 = .ok (.goto (-41), 3)) rfl, List.forall_mem_cons.mpr ⟨w_iconst (by decide +kernel : decode (zb 62) 46 = .ok (.iconst 0, 1)) rfl, List.forall_mem_cons.mpr ⟨w_zr (by decide +kernel : decode (zb 62) 47 = .ok (.ireturn, 1)) rfl, fun _ h => absurd h List.not_mem_nil⟩⟩⟩⟩⟩⟩⟩⟩⟩⟩⟩⟩⟩⟩⟩⟩⟩⟩⟩⟩⟩⟩⟩⟩⟩⟩
theorem zs62 : ∀ q ∈ zc62, zSn 62 q := zs62_0
-- HummingSet$Wireless.minuteOfNoShock()I
def zc63 : List (Nat × ZIns) := [(0, z_ic 0 1), (1, z_is 1 1), (2, z_ic 0 1), (3, z_is 2 1), (4, z_il 2 1), (5, z_al 0 1), (6, z_gI 10 6), (9, z_ige 32), (12, z_il 1 1), (13, z_al 0 1), (14, z_gR 10 1), (17, z_il 2 1), (18, z_aald 25), (19, z_cV 3 20 3 0), (22, z_mmax), (25, z_is 1 1), (26, z_inc 2 1), (29, z_goto 4), (32, z_il 1 1), (33, z_ic 999 3), (36, z_igt 43), (39, z_il 1 1), (40, z_goto 45), (43, z_ic (-4) 2), (45, z_ir)]
set_option maxRecDepth 100000 in
set_option maxHeartbeats 4000000 in
theorem zs63_0 : ∀ q ∈ ([(0, z_ic 0 1), (1, z_is 1 1), (2, z_ic 0 1), (3, z_is 2 1), (4, z_il 2 1), (5, z_al 0 1), (6, z_gI 10 6), (9, z_ige 32), (12, z_il 1 1), (13, z_al 0 1), (14, z_gR 10 1), (17, z_il 2 1), (18, z_aald 25), (19, z_cV 3 20 3 0), (22, z_mmax), (25, z_is 1 1), (26, z_inc 2 1), (29, z_goto 4), (32, z_il 1 1), (33, z_ic 999 3), (36, z_igt 43), (39, z_il 1 1), (40, z_goto 45), (43, z_ic (-4) 2), (45, z_ir)] : List (Nat × ZIns)), zSn 63 q := List.forall_mem_cons.mpr ⟨w_iconst (by decide +kernel : decode (zb 63) 0 = .ok (.iconst 0, 1)) rfl, List.forall_mem_cons.mpr ⟨w_istore_n (by decide +kernel : decode (zb 63) 1 = .ok (.istore_n 1, 1)) rfl, List.forall_mem_cons.mpr ⟨w_iconst (by decide +kernel : decode (zb 63) 2 = .ok (.iconst 0, 1)) rfl, List.forall_mem_cons.mpr ⟨w_istore_n (by decide +kernel : decode (zb 63) 3 = .ok (.istore_n 2, 1)) rfl, List.forall_mem_cons.mpr ⟨w_iload_n (by decide +kernel : decode (zb 63) 4 = .ok (.iload_n 2, 1)) rfl, List.forall_mem_cons.mpr ⟨w_aload_n (by decide +kernel : decode (zb 63) 5 = .ok (.aload_n 0, 1)) rfl, List.forall_mem_cons.mpr ⟨w_gI zw63 (j := 6) zo10 (by decide +kernel) zfk_HummingSet_Wireless_46 rfl (by decide +kernel : decode (zb 63) 6 = .ok (.getfield 46, 3)), List.forall_mem_cons.mpr ⟨w_ige (by decide +kernel : decode (zb 63) 9 = .ok (.if_icmp .ge 23, 3)) rfl, List.forall_mem_cons.mpr ⟨w_iload_n (by decide +kernel : decode (zb 63) 12 = .ok (.iload_n 1, 1)) rfl, List.forall_mem_cons.mpr ⟨w_aload_n (by decide +kernel : decode (zb 63) 13 = .ok (.aload_n 0, 1)) rfl, List.forall_mem_cons.mpr ⟨w_gR zw63 (j := 1) zo10 (by decide +kernel) zfk_HummingSet_Wireless_19 rfl (by decide +kernel : decode (zb 63) 14 = .ok (.getfield 19, 3)), List.forall_mem_cons.mpr ⟨w_iload_n (by decide +kernel : decode (zb 63) 17 = .ok (.iload_n 2, 1)) rfl, List.forall_mem_cons.mpr ⟨w_aald25 (by decide +kernel : decode (zb 63) 18 = .ok (.aaload, 1)), List.forall_mem_cons.mpr ⟨w_cV zw63 zo3 rfl rfl zin20 zse20 zca20 (by decide +kernel) (by decide +kernel) zmk_HummingSet_Wireless_125 (by decide +kernel : decode (zb 63) 19 = .ok (.invokevirtual 125, 3)), List.forall_mem_cons.mpr ⟨w_mmax zw63 zmaL_mmax_HummingSet_Wireless_129 zmaS_mmax zmaI zmaC_mmax (by decide +kernel) (by decide +kernel : decode (zb 63) 22 = .ok (.invokestatic 129, 3)), List.forall_mem_cons.mpr ⟨w_istore_n (by decide +kernel : decode (zb 63) 25 = .ok (.istore_n 1, 1)) rfl, List.forall_mem_cons.mpr ⟨w_iinc (by decide +kernel : decode (zb 63) 26 = .ok (.iinc 2 1, 3)) rfl, List.forall_mem_cons.mpr ⟨w_goto (by decide +kernel : decode (zb 63) 29 = .ok (.goto (-25), 3)) rfl, List.forall_mem_cons.mpr ⟨w_iload_n (by decide +kernel : decode (zb 63) 32 = .ok (.iload_n 1, 1)) rfl, List.forall_mem_cons.mpr ⟨w_sipush (by decide +kernel : decode (zb 63) 33 = .ok (.sipush 999, 3)) rfl, List.forall_mem_cons.mpr ⟨w_igt (by decide +kernel : decode (zb 63) 36 = .ok (.if_icmp .gt 7, 3)) rfl, List.forall_mem_cons.mpr ⟨w_iload_n (by decide +kernel : decode (zb 63) 39 = .ok (.iload_n 1, 1)) rfl, List.forall_mem_cons.mpr ⟨w_goto (by decide +kernel : decode (zb 63) 40 = .ok (.goto 5, 3)) rfl, List.forall_mem_cons.mpr ⟨w_bipush (by decide +kernel : decode (zb 63) 43 = .ok (.bipush (-4), 2)) rfl, List.forall_mem_cons.mpr ⟨w_ir (by decide +kernel : decode (zb 63) 45 = .ok (.ireturn, 1)) rfl, fun _ h => absurd h List.not_mem_nil⟩⟩⟩⟩⟩⟩⟩⟩⟩⟩⟩⟩⟩⟩⟩⟩⟩⟩⟩⟩⟩⟩⟩⟩⟩
theorem zs63 : ∀ q ∈ zc63, zSn 63 q := zs63_0
-- HummingSet$Wireless.weightOf(I)J
def zc64 : List (Nat × ZIns) := [(0, z_lc 1 1), (1, z_ls 2 1), (2, z_ic 0 1), (3, z_is 4 2), (5, z_il 4 2), (7, z_al 0 1), (8, z_gI 10 6), (11, z_ige 56), (14, z_al 0 1), (15, z_gR 10 1), (18, z_il 4 2), (20, z_aald 25), (21, z_gI 3 4), (24, z_is 5 2), (26, z_ll 2 1), (27, z_il 1 1), (28, z_ic 1 1), (29, z_il 4 2), (31, z_ishl), (32, z_iand), (33, z_ifeq 42), (36, z_il 5 2), (38, z_i2l), (39, z_goto 48), (42, z_ic 10 2), (44, z_il 5 2), (46, z_isub), (47, z_i2l), (48, z_lmul), (49, z_ls 2 1), (50, z_inc 4 1), (53, z_goto 5), (56, z_ll 2 1), (57, z_lr)]
set_option maxRecDepth 100000 in
set_option maxHeartbeats 4000000 in
theorem zs64_0 : ∀ q ∈ ([(0, z_lc 1 1), (1, z_ls 2 1), (2, z_ic 0 1), (3, z_is 4 2), (5, z_il 4 2), (7, z_al 0 1), (8, z_gI 10 6), (11, z_ige 56), (14, z_al 0 1), (15, z_gR 10 1), (18, z_il 4 2), (20, z_aald 25), (21, z_gI 3 4), (24, z_is 5 2), (26, z_ll 2 1), (27, z_il 1 1), (28, z_ic 1 1), (29, z_il 4 2), (31, z_ishl), (32, z_iand), (33, z_ifeq 42), (36, z_il 5 2), (38, z_i2l), (39, z_goto 48), (42, z_ic 10 2), (44, z_il 5 2), (46, z_isub), (47, z_i2l), (48, z_lmul), (49, z_ls 2 1), (50, z_inc 4 1), (53, z_goto 5), (56, z_ll 2 1), (57, z_lr)] : List (Nat × ZIns)), zSn 64 q := List.forall_mem_cons.mpr ⟨w_lconst (by decide +kernel : decode (zb 64) 0 = .ok (.lconst 1, 1)) rfl, List.forall_mem_cons.mpr ⟨w_lstore_n (by decide +kernel : decode (zb 64) 1 = .ok (.lstore_n 2, 1)) rfl, List.forall_mem_cons.mpr ⟨w_iconst (by decide +kernel : decode (zb 64) 2 = .ok (.iconst 0, 1)) rfl, List.forall_mem_cons.mpr ⟨w_istore (by decide +kernel : decode (zb 64) 3 = .ok (.istore 4, 2)), List.forall_mem_cons.mpr ⟨w_iload (by decide +kernel : decode (zb 64) 5 = .ok (.iload 4, 2)), List.forall_mem_cons.mpr ⟨w_aload_n (by decide +kernel : decode (zb 64) 7 = .ok (.aload_n 0, 1)) rfl, List.forall_mem_cons.mpr ⟨w_gI zw64 (j := 6) zo10 (by decide +kernel) zfk_HummingSet_Wireless_46 rfl (by decide +kernel : decode (zb 64) 8 = .ok (.getfield 46, 3)), List.forall_mem_cons.mpr ⟨w_ige (by decide +kernel : decode (zb 64) 11 = .ok (.if_icmp .ge 45, 3)) rfl, List.forall_mem_cons.mpr ⟨w_aload_n (by decide +kernel : decode (zb 64) 14 = .ok (.aload_n 0, 1)) rfl, List.forall_mem_cons.mpr ⟨w_gR zw64 (j := 1) zo10 (by decide +kernel) zfk_HummingSet_Wireless_19 rfl (by decide +kernel : decode (zb 64) 15 = .ok (.getfield 19, 3)), List.forall_mem_cons.mpr ⟨w_iload (by decide +kernel : decode (zb 64) 18 = .ok (.iload 4, 2)), List.forall_mem_cons.mpr ⟨w_aald25 (by decide +kernel : decode (zb 64) 20 = .ok (.aaload, 1)), List.forall_mem_cons.mpr ⟨w_gI zw64 (j := 4) zo3 (by decide +kernel) zfk_HummingSet_Wireless_88 rfl (by decide +kernel : decode (zb 64) 21 = .ok (.getfield 88, 3)), List.forall_mem_cons.mpr ⟨w_istore (by decide +kernel : decode (zb 64) 24 = .ok (.istore 5, 2)), List.forall_mem_cons.mpr ⟨w_lload_n (by decide +kernel : decode (zb 64) 26 = .ok (.lload_n 2, 1)) rfl, List.forall_mem_cons.mpr ⟨w_iload_n (by decide +kernel : decode (zb 64) 27 = .ok (.iload_n 1, 1)) rfl, List.forall_mem_cons.mpr ⟨w_iconst (by decide +kernel : decode (zb 64) 28 = .ok (.iconst 1, 1)) rfl, List.forall_mem_cons.mpr ⟨w_iload (by decide +kernel : decode (zb 64) 29 = .ok (.iload 4, 2)), List.forall_mem_cons.mpr ⟨w_ishl (by decide +kernel : decode (zb 64) 31 = .ok (.ishl, 1)), List.forall_mem_cons.mpr ⟨w_iand (by decide +kernel : decode (zb 64) 32 = .ok (.iand, 1)), List.forall_mem_cons.mpr ⟨w_ifeq (by decide +kernel : decode (zb 64) 33 = .ok (.ifCond .eq 9, 3)) rfl, List.forall_mem_cons.mpr ⟨w_iload (by decide +kernel : decode (zb 64) 36 = .ok (.iload 5, 2)), List.forall_mem_cons.mpr ⟨w_i2l (by decide +kernel : decode (zb 64) 38 = .ok (.i2l, 1)), List.forall_mem_cons.mpr ⟨w_goto (by decide +kernel : decode (zb 64) 39 = .ok (.goto 9, 3)) rfl, List.forall_mem_cons.mpr ⟨w_bipush (by decide +kernel : decode (zb 64) 42 = .ok (.bipush 10, 2)) rfl, List.forall_mem_cons.mpr ⟨w_iload (by decide +kernel : decode (zb 64) 44 = .ok (.iload 5, 2)), List.forall_mem_cons.mpr ⟨w_isub (by decide +kernel : decode (zb 64) 46 = .ok (.isub, 1)), List.forall_mem_cons.mpr ⟨w_i2l (by decide +kernel : decode (zb 64) 47 = .ok (.i2l, 1)), List.forall_mem_cons.mpr ⟨w_lmul (by decide +kernel : decode (zb 64) 48 = .ok (.lmul, 1)), List.forall_mem_cons.mpr ⟨w_lstore_n (by decide +kernel : decode (zb 64) 49 = .ok (.lstore_n 2, 1)) rfl, List.forall_mem_cons.mpr ⟨w_iinc (by decide +kernel : decode (zb 64) 50 = .ok (.iinc 4 1, 3)) rfl, List.forall_mem_cons.mpr ⟨w_goto (by decide +kernel : decode (zb 64) 53 = .ok (.goto (-48), 3)) rfl, List.forall_mem_cons.mpr ⟨w_lload_n (by decide +kernel : decode (zb 64) 56 = .ok (.lload_n 2, 1)) rfl, List.forall_mem_cons.mpr ⟨w_lr (by decide +kernel : decode (zb 64) 57 = .ok (.lreturn, 1)) rfl, fun _ h => absurd h List.not_mem_nil⟩⟩⟩⟩⟩⟩⟩⟩⟩⟩⟩⟩⟩⟩⟩⟩⟩⟩⟩⟩⟩⟩⟩⟩⟩⟩⟩⟩⟩⟩⟩⟩⟩⟩
theorem zs64 : ∀ q ∈ zc64, zSn 64 q := zs64_0
-- HummingSet$Wireless.costOf(I)I
def zc65 : List (Nat × ZIns) := [(0, z_ic 0 1), (1, z_is 2 1), (2, z_ic 0 1), (3, z_is 3 1), (4, z_il 3 1), (5, z_al 0 1), (6, z_gI 10 6), (9, z_ige 38), (12, z_il 1 1), (13, z_ic 1 1), (14, z_il 3 1), (15, z_ishl), (16, z_iand), (17, z_ifeq 32), (20, z_il 2 1), (21, z_al 0 1), (22, z_gR 10 1), (25, z_il 3 1), (26, z_aald 25), (27, z_gI 3 6), (30, z_iadd), (31, z_is 2 1), (32, z_inc 3 1), (35, z_goto 4), (38, z_il 2 1), (39, z_ir)]
set_option maxRecDepth 100000 in
set_option maxHeartbeats 4000000 in
theorem zs65_0 : ∀ q ∈ ([(0, z_ic 0 1), (1, z_is 2 1), (2, z_ic 0 1), (3, z_is 3 1), (4, z_il 3 1), (5, z_al 0 1), (6, z_gI 10 6), (9, z_ige 38), (12, z_il 1 1), (13, z_ic 1 1), (14, z_il 3 1), (15, z_ishl), (16, z_iand), (17, z_ifeq 32), (20, z_il 2 1), (21, z_al 0 1), (22, z_gR 10 1), (25, z_il 3 1), (26, z_aald 25), (27, z_gI 3 6), (30, z_iadd), (31, z_is 2 1), (32, z_inc 3 1), (35, z_goto 4), (38, z_il 2 1), (39, z_ir)] : List (Nat × ZIns)), zSn 65 q := List.forall_mem_cons.mpr ⟨w_iconst (by decide +kernel : decode (zb 65) 0 = .ok (.iconst 0, 1)) rfl, List.forall_mem_cons.mpr ⟨w_istore_n (by decide +kernel : decode (zb 65) 1 = .ok (.istore_n 2, 1)) rfl, List.forall_mem_cons.mpr ⟨w_iconst (by decide +kernel : decode (zb 65) 2 = .ok (.iconst 0, 1)) rfl, List.forall_mem_cons.mpr ⟨w_istore_n (by decide +kernel : decode (zb 65) 3 = .ok (.istore_n 3, 1)) rfl, List.forall_mem_cons.mpr ⟨w_iload_n (by decide +kernel : decode (zb 65) 4 = .ok (.iload_n 3, 1)) rfl, List.forall_mem_cons.mpr ⟨w_aload_n (by decide +kernel : decode (zb 65) 5 = .ok (.aload_n 0, 1)) rfl, List.forall_mem_cons.mpr ⟨w_gI zw65 (j := 6) zo10 (by decide +kernel) zfk_HummingSet_Wireless_46 rfl (by decide +kernel : decode (zb 65) 6 = .ok (.getfield 46, 3)), List.forall_mem_cons.mpr ⟨w_ige (by decide +kernel : decode (zb 65) 9 = .ok (.if_icmp .ge 29, 3)) rfl, List.forall_mem_cons.mpr ⟨w_iload_n (by decide +kernel : decode (zb 65) 12 = .ok (.iload_n 1, 1)) rfl, List.forall_mem_cons.mpr ⟨w_iconst (by decide +kernel : decode (zb 65) 13 = .ok (.iconst 1, 1)) rfl, List.forall_mem_cons.mpr ⟨w_iload_n (by decide +kernel : decode (zb 65) 14 = .ok (.iload_n 3, 1)) rfl, List.forall_mem_cons.mpr ⟨w_ishl (by decide +kernel : decode (zb 65) 15 = .ok (.ishl, 1)), List.forall_mem_cons.mpr ⟨w_iand (by decide +kernel : decode (zb 65) 16 = .ok (.iand, 1)), List.forall_mem_cons.mpr ⟨w_ifeq (by decide +kernel : decode (zb 65) 17 = .ok (.ifCond .eq 15, 3)) rfl, List.forall_mem_cons.mpr ⟨w_iload_n (by decide +kernel : decode (zb 65) 20 = .ok (.iload_n 2, 1)) rfl, List.forall_mem_cons.mpr ⟨w_aload_n (by decide +kernel : decode (zb 65) 21 = .ok (.aload_n 0, 1)) rfl, List.forall_mem_cons.mpr ⟨w_gR zw65 (j := 1) zo10 (by decide +kernel) zfk_HummingSet_Wireless_19 rfl (by decide +kernel : decode (zb 65) 22 = .ok (.getfield 19, 3)), List.forall_mem_cons.mpr ⟨w_iload_n (by decide +kernel : decode (zb 65) 25 = .ok (.iload_n 3, 1)) rfl, List.forall_mem_cons.mpr ⟨w_aald25 (by decide +kernel : decode (zb 65) 26 = .ok (.aaload, 1)), List.forall_mem_cons.mpr ⟨w_gI zw65 (j := 6) zo3 (by decide +kernel) zfk_HummingSet_Wireless_94 rfl (by decide +kernel : decode (zb 65) 27 = .ok (.getfield 94, 3)), List.forall_mem_cons.mpr ⟨w_iadd (by decide +kernel : decode (zb 65) 30 = .ok (.iadd, 1)), List.forall_mem_cons.mpr ⟨w_istore_n (by decide +kernel : decode (zb 65) 31 = .ok (.istore_n 2, 1)) rfl, List.forall_mem_cons.mpr ⟨w_iinc (by decide +kernel : decode (zb 65) 32 = .ok (.iinc 3 1, 3)) rfl, List.forall_mem_cons.mpr ⟨w_goto (by decide +kernel : decode (zb 65) 35 = .ok (.goto (-31), 3)) rfl, List.forall_mem_cons.mpr ⟨w_iload_n (by decide +kernel : decode (zb 65) 38 = .ok (.iload_n 2, 1)) rfl, List.forall_mem_cons.mpr ⟨w_ir (by decide +kernel : decode (zb 65) 39 = .ok (.ireturn, 1)) rfl, fun _ h => absurd h List.not_mem_nil⟩⟩⟩⟩⟩⟩⟩⟩⟩⟩⟩⟩⟩⟩⟩⟩⟩⟩⟩⟩⟩⟩⟩⟩⟩⟩
theorem zs65 : ∀ q ∈ zc65, zSn 65 q := zs65_0
-- HummingSet$Wireless.tonesHowling()I
def zc66 : List (Nat × ZIns) := [(0, z_ic 0 1), (1, z_is 1 1), (2, z_ic 0 1), (3, z_is 2 1), (4, z_il 2 1), (5, z_al 0 1), (6, z_gI 10 7), (9, z_ige 45), (12, z_al 0 1), (13, z_al 0 1), (14, z_gR 10 2), (17, z_il 2 1), (18, z_aald 26), (19, z_cV 10 67 7 1), (22, z_ifeq 39), (25, z_il 1 1), (26, z_ic 1 1), (27, z_al 0 1), (28, z_gR 10 2), (31, z_il 2 1), (32, z_aald 26), (33, z_gI 9 1), (36, z_ishl), (37, z_ior), (38, z_is 1 1), (39, z_inc 2 1), (42, z_goto 4), (45, z_il 1 1), (46, z_ir)]
set_option maxRecDepth 100000 in
set_option maxHeartbeats 4000000 in
theorem zs66_0 : ∀ q ∈ ([(0, z_ic 0 1), (1, z_is 1 1), (2, z_ic 0 1), (3, z_is 2 1), (4, z_il 2 1), (5, z_al 0 1), (6, z_gI 10 7), (9, z_ige 45), (12, z_al 0 1), (13, z_al 0 1), (14, z_gR 10 2), (17, z_il 2 1), (18, z_aald 26), (19, z_cV 10 67 7 1), (22, z_ifeq 39), (25, z_il 1 1), (26, z_ic 1 1), (27, z_al 0 1), (28, z_gR 10 2), (31, z_il 2 1), (32, z_aald 26), (33, z_gI 9 1), (36, z_ishl), (37, z_ior), (38, z_is 1 1), (39, z_inc 2 1), (42, z_goto 4), (45, z_il 1 1), (46, z_ir)] : List (Nat × ZIns)), zSn 66 q := List.forall_mem_cons.mpr ⟨w_iconst (by decide +kernel : decode (zb 66) 0 = .ok (.iconst 0, 1)) rfl, List.forall_mem_cons.mpr ⟨w_istore_n (by decide +kernel : decode (zb 66) 1 = .ok (.istore_n 1, 1)) rfl, List.forall_mem_cons.mpr ⟨w_iconst (by decide +kernel : decode (zb 66) 2 = .ok (.iconst 0, 1)) rfl, List.forall_mem_cons.mpr ⟨w_istore_n (by decide +kernel : decode (zb 66) 3 = .ok (.istore_n 2, 1)) rfl, List.forall_mem_cons.mpr ⟨w_iload_n (by decide +kernel : decode (zb 66) 4 = .ok (.iload_n 2, 1)) rfl, List.forall_mem_cons.mpr ⟨w_aload_n (by decide +kernel : decode (zb 66) 5 = .ok (.aload_n 0, 1)) rfl, List.forall_mem_cons.mpr ⟨w_gI zw66 (j := 7) zo10 (by decide +kernel) zfk_HummingSet_Wireless_49 rfl (by decide +kernel : decode (zb 66) 6 = .ok (.getfield 49, 3)), List.forall_mem_cons.mpr ⟨w_ige (by decide +kernel : decode (zb 66) 9 = .ok (.if_icmp .ge 36, 3)) rfl, List.forall_mem_cons.mpr ⟨w_aload_n (by decide +kernel : decode (zb 66) 12 = .ok (.aload_n 0, 1)) rfl, List.forall_mem_cons.mpr ⟨w_aload_n (by decide +kernel : decode (zb 66) 13 = .ok (.aload_n 0, 1)) rfl, List.forall_mem_cons.mpr ⟨w_gR zw66 (j := 2) zo10 (by decide +kernel) zfk_HummingSet_Wireless_25 rfl (by decide +kernel : decode (zb 66) 14 = .ok (.getfield 25, 3)), List.forall_mem_cons.mpr ⟨w_iload_n (by decide +kernel : decode (zb 66) 17 = .ok (.iload_n 2, 1)) rfl, List.forall_mem_cons.mpr ⟨w_aald26 (by decide +kernel : decode (zb 66) 18 = .ok (.aaload, 1)), List.forall_mem_cons.mpr ⟨w_cV zw66 zo10 rfl rfl zin67 zse67 zca67 (by decide +kernel) (by decide +kernel) zmk_HummingSet_Wireless_135 (by decide +kernel : decode (zb 66) 19 = .ok (.invokevirtual 135, 3)), List.forall_mem_cons.mpr ⟨w_ifeq (by decide +kernel : decode (zb 66) 22 = .ok (.ifCond .eq 17, 3)) rfl, List.forall_mem_cons.mpr ⟨w_iload_n (by decide +kernel : decode (zb 66) 25 = .ok (.iload_n 1, 1)) rfl, List.forall_mem_cons.mpr ⟨w_iconst (by decide +kernel : decode (zb 66) 26 = .ok (.iconst 1, 1)) rfl, List.forall_mem_cons.mpr ⟨w_aload_n (by decide +kernel : decode (zb 66) 27 = .ok (.aload_n 0, 1)) rfl, List.forall_mem_cons.mpr ⟨w_gR zw66 (j := 2) zo10 (by decide +kernel) zfk_HummingSet_Wireless_25 rfl (by decide +kernel : decode (zb 66) 28 = .ok (.getfield 25, 3)), List.forall_mem_cons.mpr ⟨w_iload_n (by decide +kernel : decode (zb 66) 31 = .ok (.iload_n 2, 1)) rfl, List.forall_mem_cons.mpr ⟨w_aald26 (by decide +kernel : decode (zb 66) 32 = .ok (.aaload, 1)), List.forall_mem_cons.mpr ⟨w_gI zw66 (j := 1) zo9 (by decide +kernel) zfk_HummingSet_Wireless_113 rfl (by decide +kernel : decode (zb 66) 33 = .ok (.getfield 113, 3)), List.forall_mem_cons.mpr ⟨w_ishl (by decide +kernel : decode (zb 66) 36 = .ok (.ishl, 1)), List.forall_mem_cons.mpr ⟨w_ior (by decide +kernel : decode (zb 66) 37 = .ok (.ior, 1)), List.forall_mem_cons.mpr ⟨w_istore_n (by decide +kernel : decode (zb 66) 38 = .ok (.istore_n 1, 1)) rfl, List.forall_mem_cons.mpr ⟨w_iinc (by decide +kernel : decode (zb 66) 39 = .ok (.iinc 2 1, 3)) rfl, List.forall_mem_cons.mpr ⟨w_goto (by decide +kernel : decode (zb 66) 42 = .ok (.goto (-38), 3)) rfl, List.forall_mem_cons.mpr ⟨w_iload_n (by decide +kernel : decode (zb 66) 45 = .ok (.iload_n 1, 1)) rfl, List.forall_mem_cons.mpr ⟨w_ir (by decide +kernel : decode (zb 66) 46 = .ok (.ireturn, 1)) rfl, fun _ h => absurd h List.not_mem_nil⟩⟩⟩⟩⟩⟩⟩⟩⟩⟩⟩⟩⟩⟩⟩⟩⟩⟩⟩⟩⟩⟩⟩⟩⟩⟩⟩⟩⟩
theorem zs66 : ∀ q ∈ zc66, zSn 66 q := zs66_0
-- HummingSet$Wireless.bringsItsOwn(LHummingSet$Way;)Z
def zc67 : List (Nat × ZIns) := [(0, z_al 1 1), (1, z_gI 9 2), (4, z_i2l), (5, z_ls 2 1), (6, z_lc 100 3), (9, z_ls 4 2), (11, z_al 1 1), (12, z_gI 9 0), (15, z_is 6 2), (17, z_il 6 2), (19, z_al 0 1), (20, z_gI 10 5), (23, z_ige 54), (26, z_ll 2 1), (27, z_al 0 1), (28, z_gR 10 0), (31, z_il 6 2), (33, z_aald 24), (34, z_gI 7 1), (37, z_i2l), (38, z_lmul), (39, z_ls 2 1), (40, z_ll 4 2), (42, z_lc 10 3), (45, z_lmul), (46, z_ls 4 2), (48, z_inc 6 1), (51, z_goto 17), (54, z_ll 2 1), (55, z_ll 4 2), (57, z_lcmp), (58, z_iflt 65), (61, z_ic 1 1), (62, z_goto 66), (65, z_ic 0 1), (66, z_zr)]
set_option maxRecDepth 100000 in
set_option maxHeartbeats 4000000 in
theorem zs67_0 : ∀ q ∈ ([(0, z_al 1 1), (1, z_gI 9 2), (4, z_i2l), (5, z_ls 2 1), (6, z_lc 100 3), (9, z_ls 4 2), (11, z_al 1 1), (12, z_gI 9 0), (15, z_is 6 2), (17, z_il 6 2), (19, z_al 0 1), (20, z_gI 10 5), (23, z_ige 54), (26, z_ll 2 1), (27, z_al 0 1), (28, z_gR 10 0), (31, z_il 6 2), (33, z_aald 24), (34, z_gI 7 1), (37, z_i2l), (38, z_lmul), (39, z_ls 2 1), (40, z_ll 4 2), (42, z_lc 10 3), (45, z_lmul), (46, z_ls 4 2), (48, z_inc 6 1), (51, z_goto 17), (54, z_ll 2 1), (55, z_ll 4 2), (57, z_lcmp), (58, z_iflt 65), (61, z_ic 1 1), (62, z_goto 66), (65, z_ic 0 1), (66, z_zr)] : List (Nat × ZIns)), zSn 67 q := List.forall_mem_cons.mpr ⟨w_aload_n (by decide +kernel : decode (zb 67) 0 = .ok (.aload_n 1, 1)) rfl, List.forall_mem_cons.mpr ⟨w_gI zw67 (j := 2) zo9 (by decide +kernel) zfk_HummingSet_Wireless_116 rfl (by decide +kernel : decode (zb 67) 1 = .ok (.getfield 116, 3)), List.forall_mem_cons.mpr ⟨w_i2l (by decide +kernel : decode (zb 67) 4 = .ok (.i2l, 1)), List.forall_mem_cons.mpr ⟨w_lstore_n (by decide +kernel : decode (zb 67) 5 = .ok (.lstore_n 2, 1)) rfl, List.forall_mem_cons.mpr ⟨w_ldc2 zw67 (zmW (w := Cond.constantLong "HummingSet$Wireless" 139 100) 720 (by decide +kernel) rfl) (by decide +kernel : decode (zb 67) 6 = .ok (.ldc2_w 139, 3)), List.forall_mem_cons.mpr ⟨w_lstore (by decide +kernel : decode (zb 67) 9 = .ok (.lstore 4, 2)), List.forall_mem_cons.mpr ⟨w_aload_n (by decide +kernel : decode (zb 67) 11 = .ok (.aload_n 1, 1)) rfl, List.forall_mem_cons.mpr ⟨w_gI zw67 (j := 0) zo9 (by decide +kernel) zfk_HummingSet_Wireless_112 rfl (by decide +kernel : decode (zb 67) 12 = .ok (.getfield 112, 3)), List.forall_mem_cons.mpr ⟨w_istore (by decide +kernel : decode (zb 67) 15 = .ok (.istore 6, 2)), List.forall_mem_cons.mpr ⟨w_iload (by decide +kernel : decode (zb 67) 17 = .ok (.iload 6, 2)), List.forall_mem_cons.mpr ⟨w_aload_n (by decide +kernel : decode (zb 67) 19 = .ok (.aload_n 0, 1)) rfl, List.forall_mem_cons.mpr ⟨w_gI zw67 (j := 5) zo10 (by decide +kernel) zfk_HummingSet_Wireless_42 rfl (by decide +kernel : decode (zb 67) 20 = .ok (.getfield 42, 3)), List.forall_mem_cons.mpr ⟨w_ige (by decide +kernel : decode (zb 67) 23 = .ok (.if_icmp .ge 31, 3)) rfl, List.forall_mem_cons.mpr ⟨w_lload_n (by decide +kernel : decode (zb 67) 26 = .ok (.lload_n 2, 1)) rfl, List.forall_mem_cons.mpr ⟨w_aload_n (by decide +kernel : decode (zb 67) 27 = .ok (.aload_n 0, 1)) rfl, List.forall_mem_cons.mpr ⟨w_gR zw67 (j := 0) zo10 (by decide +kernel) zfk_HummingSet_Wireless_11 rfl (by decide +kernel : decode (zb 67) 28 = .ok (.getfield 11, 3)), List.forall_mem_cons.mpr ⟨w_iload (by decide +kernel : decode (zb 67) 31 = .ok (.iload 6, 2)), List.forall_mem_cons.mpr ⟨w_aald24 (by decide +kernel : decode (zb 67) 33 = .ok (.aaload, 1)), List.forall_mem_cons.mpr ⟨w_gI zw67 (j := 1) zo7 (by decide +kernel) zfk_HummingSet_Wireless_66 rfl (by decide +kernel : decode (zb 67) 34 = .ok (.getfield 66, 3)), List.forall_mem_cons.mpr ⟨w_i2l (by decide +kernel : decode (zb 67) 37 = .ok (.i2l, 1)), List.forall_mem_cons.mpr ⟨w_lmul (by decide +kernel : decode (zb 67) 38 = .ok (.lmul, 1)), List.forall_mem_cons.mpr ⟨w_lstore_n (by decide +kernel : decode (zb 67) 39 = .ok (.lstore_n 2, 1)) rfl, List.forall_mem_cons.mpr ⟨w_lload (by decide +kernel : decode (zb 67) 40 = .ok (.lload 4, 2)), List.forall_mem_cons.mpr ⟨w_ldc2 zw67 (zmW (w := Cond.constantLong "HummingSet$Wireless" 141 10) 721 (by decide +kernel) rfl) (by decide +kernel : decode (zb 67) 42 = .ok (.ldc2_w 141, 3)), List.forall_mem_cons.mpr ⟨w_lmul (by decide +kernel : decode (zb 67) 45 = .ok (.lmul, 1)), List.forall_mem_cons.mpr ⟨w_lstore (by decide +kernel : decode (zb 67) 46 = .ok (.lstore 4, 2)), List.forall_mem_cons.mpr ⟨w_iinc (by decide +kernel : decode (zb 67) 48 = .ok (.iinc 6 1, 3)) rfl, List.forall_mem_cons.mpr ⟨w_goto (by decide +kernel : decode (zb 67) 51 = .ok (.goto (-34), 3)) rfl, List.forall_mem_cons.mpr ⟨w_lload_n (by decide +kernel : decode (zb 67) 54 = .ok (.lload_n 2, 1)) rfl, List.forall_mem_cons.mpr ⟨w_lload (by decide +kernel : decode (zb 67) 55 = .ok (.lload 4, 2)), List.forall_mem_cons.mpr ⟨w_lcmp (by decide +kernel : decode (zb 67) 57 = .ok (.lcmp, 1)), List.forall_mem_cons.mpr ⟨w_iflt (by decide +kernel : decode (zb 67) 58 = .ok (.ifCond .lt 7, 3)) rfl, List.forall_mem_cons.mpr ⟨w_iconst (by decide +kernel : decode (zb 67) 61 = .ok (.iconst 1, 1)) rfl, List.forall_mem_cons.mpr ⟨w_goto (by decide +kernel : decode (zb 67) 62 = .ok (.goto 4, 3)) rfl, List.forall_mem_cons.mpr ⟨w_iconst (by decide +kernel : decode (zb 67) 65 = .ok (.iconst 0, 1)) rfl, List.forall_mem_cons.mpr ⟨w_zr (by decide +kernel : decode (zb 67) 66 = .ok (.ireturn, 1)) rfl, fun _ h => absurd h List.not_mem_nil⟩⟩⟩⟩⟩⟩⟩⟩⟩⟩⟩⟩⟩⟩⟩⟩⟩⟩⟩⟩⟩⟩⟩⟩⟩⟩⟩⟩⟩⟩⟩⟩⟩⟩⟩⟩
theorem zs67 : ∀ q ∈ zc67, zSn 67 q := zs67_0
-- HummingSet$Wireless.goneOf(II)I
def zc68 : List (Nat × ZIns) := [(0, z_al 0 1), (1, z_il 1 1), (2, z_cV 10 47 2 1), (5, z_ifeq 25), (8, z_al 0 1), (9, z_gR 10 1), (12, z_il 1 1), (13, z_aald 25), (14, z_gI 3 2), (17, z_ic 0 1), (18, z_ic 4 1), (19, z_cS 100 3 3), (22, z_ifne 27), (25, z_ic 0 1), (26, z_ir), (27, z_ic 1000000 2), (29, z_is 3 1), (30, z_al 0 1), (31, z_gR 10 1), (34, z_il 1 1), (35, z_aald 25), (36, z_gI 3 3), (39, z_is 4 2), (41, z_al 0 1), (42, z_gR 10 4), (45, z_al 0 1), (46, z_gR 10 1), (49, z_il 1 1), (50, z_aald 25), (51, z_gI 3 2), (54, z_iald 20), (55, z_is 5 2), (57, z_ic 0 1), (58, z_is 6 2), (60, z_il 6 2), (62, z_il 2 1), (63, z_ige 98), (66, z_il 3 1), (67, z_il 3 1), (68, z_ic 999 3), (71, z_il 5 2), (73, z_il 4 2), (75, z_imul), (76, z_ic 10 2), (78, z_idiv), (79, z_mmin), (82, z_imul), (83, z_ic 1000 3), (86, z_idiv), (87, z_isub), (88, z_is 3 1), (89, z_inc 4 1), (92, z_inc 6 1), (95, z_goto 60), (98, z_ic 1000000 2), (100, z_il 3 1), (101, z_isub), (102, z_ir)]
set_option maxRecDepth 100000 in
set_option maxHeartbeats 4000000 in
theorem zs68_0 : ∀ q ∈ ([(0, z_al 0 1), (1, z_il 1 1), (2, z_cV 10 47 2 1), (5, z_ifeq 25), (8, z_al 0 1), (9, z_gR 10 1), (12, z_il 1 1), (13, z_aald 25), (14, z_gI 3 2), (17, z_ic 0 1), (18, z_ic 4 1), (19, z_cS 100 3 3), (22, z_ifne 27), (25, z_ic 0 1), (26, z_ir), (27, z_ic 1000000 2), (29, z_is 3 1), (30, z_al 0 1), (31, z_gR 10 1), (34, z_il 1 1), (35, z_aald 25), (36, z_gI 3 3), (39, z_is 4 2), (41, z_al 0 1), (42, z_gR 10 4), (45, z_al 0 1), (46, z_gR 10 1), (49, z_il 1 1), (50, z_aald 25), (51, z_gI 3 2), (54, z_iald 20), (55, z_is 5 2), (57, z_ic 0 1), (58, z_is 6 2), (60, z_il 6 2), (62, z_il 2 1), (63, z_ige 98), (66, z_il 3 1), (67, z_il 3 1), (68, z_ic 999 3)] : List (Nat × ZIns)), zSn 68 q := List.forall_mem_cons.mpr ⟨w_aload_n (by decide +kernel : decode (zb 68) 0 = .ok (.aload_n 0, 1)) rfl, List.forall_mem_cons.mpr ⟨w_iload_n (by decide +kernel : decode (zb 68) 1 = .ok (.iload_n 1, 1)) rfl, List.forall_mem_cons.mpr ⟨w_cV zw68 zo10 rfl rfl zin47 zse47 zca47 (by decide +kernel) (by decide +kernel) zmk_HummingSet_Wireless_106 (by decide +kernel : decode (zb 68) 2 = .ok (.invokevirtual 106, 3)), List.forall_mem_cons.mpr ⟨w_ifeq (by decide +kernel : decode (zb 68) 5 = .ok (.ifCond .eq 20, 3)) rfl, List.forall_mem_cons.mpr ⟨w_aload_n (by decide +kernel : decode (zb 68) 8 = .ok (.aload_n 0, 1)) rfl, List.forall_mem_cons.mpr ⟨w_gR zw68 (j := 1) zo10 (by decide +kernel) zfk_HummingSet_Wireless_19 rfl (by decide +kernel : decode (zb 68) 9 = .ok (.getfield 19, 3)), List.forall_mem_cons.mpr ⟨w_iload_n (by decide +kernel : decode (zb 68) 12 = .ok (.iload_n 1, 1)) rfl, List.forall_mem_cons.mpr ⟨w_aald25 (by decide +kernel : decode (zb 68) 13 = .ok (.aaload, 1)), List.forall_mem_cons.mpr ⟨w_gI zw68 (j := 2) zo3 (by decide +kernel) zfk_HummingSet_Wireless_82 rfl (by decide +kernel : decode (zb 68) 14 = .ok (.getfield 82, 3)), List.forall_mem_cons.mpr ⟨w_iconst (by decide +kernel : decode (zb 68) 17 = .ok (.iconst 0, 1)) rfl, List.forall_mem_cons.mpr ⟨w_iconst (by decide +kernel : decode (zb 68) 18 = .ok (.iconst 4, 1)) rfl, List.forall_mem_cons.mpr ⟨w_cS zw68 rfl zst100 zca100 (by decide +kernel) (by decide +kernel) zmk_HummingSet_Wireless_58 (by decide +kernel : decode (zb 68) 19 = .ok (.invokestatic 58, 3)), List.forall_mem_cons.mpr ⟨w_ifne (by decide +kernel : decode (zb 68) 22 = .ok (.ifCond .ne 5, 3)) rfl, List.forall_mem_cons.mpr ⟨w_iconst (by decide +kernel : decode (zb 68) 25 = .ok (.iconst 0, 1)) rfl, List.forall_mem_cons.mpr ⟨w_ir (by decide +kernel : decode (zb 68) 26 = .ok (.ireturn, 1)) rfl, List.forall_mem_cons.mpr ⟨w_ldc zw68 (zmW (w := Cond.constant "HummingSet$Wireless" 143 1000000) 730 (by decide +kernel) rfl) (by decide +kernel : decode (zb 68) 27 = .ok (.ldc 143, 2)), List.forall_mem_cons.mpr ⟨w_istore_n (by decide +kernel : decode (zb 68) 29 = .ok (.istore_n 3, 1)) rfl, List.forall_mem_cons.mpr ⟨w_aload_n (by decide +kernel : decode (zb 68) 30 = .ok (.aload_n 0, 1)) rfl, List.forall_mem_cons.mpr ⟨w_gR zw68 (j := 1) zo10 (by decide +kernel) zfk_HummingSet_Wireless_19 rfl (by decide +kernel : decode (zb 68) 31 = .ok (.getfield 19, 3)), List.forall_mem_cons.mpr ⟨w_iload_n (by decide +kernel : decode (zb 68) 34 = .ok (.iload_n 1, 1)) rfl, List.forall_mem_cons.mpr ⟨w_aald25 (by decide +kernel : decode (zb 68) 35 = .ok (.aaload, 1)), List.forall_mem_cons.mpr ⟨w_gI zw68 (j := 3) zo3 (by decide +kernel) zfk_HummingSet_Wireless_85 rfl (by decide +kernel : decode (zb 68) 36 = .ok (.getfield 85, 3)), List.forall_mem_cons.mpr ⟨w_istore (by decide +kernel : decode (zb 68) 39 = .ok (.istore 4, 2)), List.forall_mem_cons.mpr ⟨w_aload_n (by decide +kernel : decode (zb 68) 41 = .ok (.aload_n 0, 1)) rfl, List.forall_mem_cons.mpr ⟨w_gR zw68 (j := 4) zo10 (by decide +kernel) zfk_HummingSet_Wireless_33 rfl (by decide +kernel : decode (zb 68) 42 = .ok (.getfield 33, 3)), List.forall_mem_cons.mpr ⟨w_aload_n (by decide +kernel : decode (zb 68) 45 = .ok (.aload_n 0, 1)) rfl, List.forall_mem_cons.mpr ⟨w_gR zw68 (j := 1) zo10 (by decide +kernel) zfk_HummingSet_Wireless_19 rfl (by decide +kernel : decode (zb 68) 46 = .ok (.getfield 19, 3)), List.forall_mem_cons.mpr ⟨w_iload_n (by decide +kernel : decode (zb 68) 49 = .ok (.iload_n 1, 1)) rfl, List.forall_mem_cons.mpr ⟨w_aald25 (by decide +kernel : decode (zb 68) 50 = .ok (.aaload, 1)), List.forall_mem_cons.mpr ⟨w_gI zw68 (j := 2) zo3 (by decide +kernel) zfk_HummingSet_Wireless_82 rfl (by decide +kernel : decode (zb 68) 51 = .ok (.getfield 82, 3)), List.forall_mem_cons.mpr ⟨w_iald (by decide +kernel : decode (zb 68) 54 = .ok (.iaload, 1)), List.forall_mem_cons.mpr ⟨w_istore (by decide +kernel : decode (zb 68) 55 = .ok (.istore 5, 2)), List.forall_mem_cons.mpr ⟨w_iconst (by decide +kernel : decode (zb 68) 57 = .ok (.iconst 0, 1)) rfl, List.forall_mem_cons.mpr ⟨w_istore (by decide +kernel : decode (zb 68) 58 = .ok (.istore 6, 2)), List.forall_mem_cons.mpr ⟨w_iload (by decide +kernel : decode (zb 68) 60 = .ok (.iload 6, 2)), List.forall_mem_cons.mpr ⟨w_iload_n (by decide +kernel : decode (zb 68) 62 = .ok (.iload_n 2, 1)) rfl, List.forall_mem_cons.mpr ⟨w_ige (by decide +kernel : decode (zb 68) 63 = .ok (.if_icmp .ge 35, 3)) rfl, List.forall_mem_cons.mpr ⟨w_iload_n (by decide +kernel : decode (zb 68) 66 = .ok (.iload_n 3, 1)) rfl, List.forall_mem_cons.mpr ⟨w_iload_n (by decide +kernel : decode (zb 68) 67 = .ok (.iload_n 3, 1)) rfl, List.forall_mem_cons.mpr ⟨w_sipush (by decide +kernel : decode (zb 68) 68 = .ok (.sipush 999, 3)) rfl, fun _ h => absurd h List.not_mem_nil⟩⟩⟩⟩⟩⟩⟩⟩⟩⟩⟩⟩⟩⟩⟩⟩⟩⟩⟩⟩⟩⟩⟩⟩⟩⟩⟩⟩⟩⟩⟩⟩⟩⟩⟩⟩⟩⟩⟩⟩
set_option maxRecDepth 100000 in
set_option maxHeartbeats 4000000 in
theorem zs68_1 : ∀ q ∈ ([(71, z_il 5 2), (73, z_il 4 2), (75, z_imul), (76, z_ic 10 2), (78, z_idiv), (79, z_mmin), (82, z_imul), (83, z_ic 1000 3), (86, z_idiv), (87, z_isub), (88, z_is 3 1), (89, z_inc 4 1), (92, z_inc 6 1), (95, z_goto 60), (98, z_ic 1000000 2), (100, z_il 3 1), (101, z_isub), (102, z_ir)] : List (Nat × ZIns)), zSn 68 q := List.forall_mem_cons.mpr ⟨w_iload (by decide +kernel : decode (zb 68) 71 = .ok (.iload 5, 2)), List.forall_mem_cons.mpr ⟨w_iload (by decide +kernel : decode (zb 68) 73 = .ok (.iload 4, 2)), List.forall_mem_cons.mpr ⟨w_imul (by decide +kernel : decode (zb 68) 75 = .ok (.imul, 1)), List.forall_mem_cons.mpr ⟨w_bipush (by decide +kernel : decode (zb 68) 76 = .ok (.bipush 10, 2)) rfl, List.forall_mem_cons.mpr ⟨w_idiv (by decide +kernel : decode (zb 68) 78 = .ok (.idiv, 1)), List.forall_mem_cons.mpr ⟨w_mmin zw68 zmaL_mmin_HummingSet_Wireless_144 zmaS_mmin zmaI zmaC_mmin (by decide +kernel) (by decide +kernel : decode (zb 68) 79 = .ok (.invokestatic 144, 3)), List.forall_mem_cons.mpr ⟨w_imul (by decide +kernel : decode (zb 68) 82 = .ok (.imul, 1)), List.forall_mem_cons.mpr ⟨w_sipush (by decide +kernel : decode (zb 68) 83 = .ok (.sipush 1000, 3)) rfl, List.forall_mem_cons.mpr ⟨w_idiv (by decide +kernel : decode (zb 68) 86 = .ok (.idiv, 1)), List.forall_mem_cons.mpr ⟨w_isub (by decide +kernel : decode (zb 68) 87 = .ok (.isub, 1)), List.forall_mem_cons.mpr ⟨w_istore_n (by decide +kernel : decode (zb 68) 88 = .ok (.istore_n 3, 1)) rfl, List.forall_mem_cons.mpr ⟨w_iinc (by decide +kernel : decode (zb 68) 89 = .ok (.iinc 4 1, 3)) rfl, List.forall_mem_cons.mpr ⟨w_iinc (by decide +kernel : decode (zb 68) 92 = .ok (.iinc 6 1, 3)) rfl, List.forall_mem_cons.mpr ⟨w_goto (by decide +kernel : decode (zb 68) 95 = .ok (.goto (-35), 3)) rfl, List.forall_mem_cons.mpr ⟨w_ldc zw68 (zmW (w := Cond.constant "HummingSet$Wireless" 143 1000000) 730 (by decide +kernel) rfl) (by decide +kernel : decode (zb 68) 98 = .ok (.ldc 143, 2)), List.forall_mem_cons.mpr ⟨w_iload_n (by decide +kernel : decode (zb 68) 100 = .ok (.iload_n 3, 1)) rfl, List.forall_mem_cons.mpr ⟨w_isub (by decide +kernel : decode (zb 68) 101 = .ok (.isub, 1)), List.forall_mem_cons.mpr ⟨w_ir (by decide +kernel : decode (zb 68) 102 = .ok (.ireturn, 1)) rfl, fun _ h => absurd h List.not_mem_nil⟩⟩⟩⟩⟩⟩⟩⟩⟩⟩⟩⟩⟩⟩⟩⟩⟩⟩
theorem zs68 : ∀ q ∈ zc68, zSn 68 q := List.forall_mem_append.mpr ⟨zs68_0, zs68_1⟩
-- java/lang/Integer.bitCount(I)I
def zc175 : List (Nat × ZIns) := [(0, z_il 0 1), (1, z_il 0 1), (2, z_ic 1 1), (3, z_iushr), (4, z_ic 1431655765 3), (7, z_iand), (8, z_isub), (9, z_is 0 1), (10, z_il 0 1), (11, z_ic 858993459 3), (14, z_iand), (15, z_il 0 1), (16, z_ic 2 1), (17, z_iushr), (18, z_ic 858993459 3), (21, z_iand), (22, z_iadd), (23, z_is 0 1), (24, z_il 0 1), (25, z_il 0 1), (26, z_ic 4 1), (27, z_iushr), (28, z_iadd), (29, z_ic 252645135 3), (32, z_iand), (33, z_is 0 1), (34, z_il 0 1), (35, z_il 0 1), (36, z_ic 8 2), (38, z_iushr), (39, z_iadd), (40, z_is 0 1), (41, z_il 0 1), (42, z_il 0 1), (43, z_ic 16 2), (45, z_iushr), (46, z_iadd), (47, z_is 0 1), (48, z_il 0 1), (49, z_ic 63 2), (51, z_iand), (52, z_ir)]
set_option maxRecDepth 100000 in
set_option maxHeartbeats 4000000 in
theorem zs175_0 : ∀ q ∈ ([(0, z_il 0 1), (1, z_il 0 1), (2, z_ic 1 1), (3, z_iushr), (4, z_ic 1431655765 3), (7, z_iand), (8, z_isub), (9, z_is 0 1), (10, z_il 0 1), (11, z_ic 858993459 3), (14, z_iand), (15, z_il 0 1), (16, z_ic 2 1), (17, z_iushr), (18, z_ic 858993459 3), (21, z_iand), (22, z_iadd), (23, z_is 0 1), (24, z_il 0 1), (25, z_il 0 1), (26, z_ic 4 1), (27, z_iushr), (28, z_iadd), (29, z_ic 252645135 3), (32, z_iand), (33, z_is 0 1), (34, z_il 0 1), (35, z_il 0 1), (36, z_ic 8 2), (38, z_iushr), (39, z_iadd), (40, z_is 0 1), (41, z_il 0 1), (42, z_il 0 1), (43, z_ic 16 2), (45, z_iushr), (46, z_iadd), (47, z_is 0 1), (48, z_il 0 1), (49, z_ic 63 2)] : List (Nat × ZIns)), zSn 175 q := List.forall_mem_cons.mpr ⟨w_iload_n (by decide +kernel : decode (zb 175) 0 = .ok (.iload_n 0, 1)) rfl, List.forall_mem_cons.mpr ⟨w_iload_n (by decide +kernel : decode (zb 175) 1 = .ok (.iload_n 0, 1)) rfl, List.forall_mem_cons.mpr ⟨w_iconst (by decide +kernel : decode (zb 175) 2 = .ok (.iconst 1, 1)) rfl, List.forall_mem_cons.mpr ⟨w_iushr (by decide +kernel : decode (zb 175) 3 = .ok (.iushr, 1)), List.forall_mem_cons.mpr ⟨w_ldcw zw175 (zmW (w := Cond.constant "java/lang/Integer" 265 1431655765) 347 (by decide +kernel) rfl) (by decide +kernel : decode (zb 175) 4 = .ok (.ldc_w 265, 3)), List.forall_mem_cons.mpr ⟨w_iand (by decide +kernel : decode (zb 175) 7 = .ok (.iand, 1)), List.forall_mem_cons.mpr ⟨w_isub (by decide +kernel : decode (zb 175) 8 = .ok (.isub, 1)), List.forall_mem_cons.mpr ⟨w_istore_n (by decide +kernel : decode (zb 175) 9 = .ok (.istore_n 0, 1)) rfl, List.forall_mem_cons.mpr ⟨w_iload_n (by decide +kernel : decode (zb 175) 10 = .ok (.iload_n 0, 1)) rfl, List.forall_mem_cons.mpr ⟨w_ldcw zw175 (zmW (w := Cond.constant "java/lang/Integer" 266 858993459) 348 (by decide +kernel) rfl) (by decide +kernel : decode (zb 175) 11 = .ok (.ldc_w 266, 3)), List.forall_mem_cons.mpr ⟨w_iand (by decide +kernel : decode (zb 175) 14 = .ok (.iand, 1)), List.forall_mem_cons.mpr ⟨w_iload_n (by decide +kernel : decode (zb 175) 15 = .ok (.iload_n 0, 1)) rfl, List.forall_mem_cons.mpr ⟨w_iconst (by decide +kernel : decode (zb 175) 16 = .ok (.iconst 2, 1)) rfl, List.forall_mem_cons.mpr ⟨w_iushr (by decide +kernel : decode (zb 175) 17 = .ok (.iushr, 1)), List.forall_mem_cons.mpr ⟨w_ldcw zw175 (zmW (w := Cond.constant "java/lang/Integer" 266 858993459) 348 (by decide +kernel) rfl) (by decide +kernel : decode (zb 175) 18 = .ok (.ldc_w 266, 3)), List.forall_mem_cons.mpr ⟨w_iand (by decide +kernel : decode (zb 175) 21 = .ok (.iand, 1)), List.forall_mem_cons.mpr ⟨w_iadd (by decide +kernel : decode (zb 175) 22 = .ok (.iadd, 1)), List.forall_mem_cons.mpr ⟨w_istore_n (by decide +kernel : decode (zb 175) 23 = .ok (.istore_n 0, 1)) rfl, List.forall_mem_cons.mpr ⟨w_iload_n (by decide +kernel : decode (zb 175) 24 = .ok (.iload_n 0, 1)) rfl, List.forall_mem_cons.mpr ⟨w_iload_n (by decide +kernel : decode (zb 175) 25 = .ok (.iload_n 0, 1)) rfl, List.forall_mem_cons.mpr ⟨w_iconst (by decide +kernel : decode (zb 175) 26 = .ok (.iconst 4, 1)) rfl, List.forall_mem_cons.mpr ⟨w_iushr (by decide +kernel : decode (zb 175) 27 = .ok (.iushr, 1)), List.forall_mem_cons.mpr ⟨w_iadd (by decide +kernel : decode (zb 175) 28 = .ok (.iadd, 1)), List.forall_mem_cons.mpr ⟨w_ldcw zw175 (zmW (w := Cond.constant "java/lang/Integer" 267 252645135) 349 (by decide +kernel) rfl) (by decide +kernel : decode (zb 175) 29 = .ok (.ldc_w 267, 3)), List.forall_mem_cons.mpr ⟨w_iand (by decide +kernel : decode (zb 175) 32 = .ok (.iand, 1)), List.forall_mem_cons.mpr ⟨w_istore_n (by decide +kernel : decode (zb 175) 33 = .ok (.istore_n 0, 1)) rfl, List.forall_mem_cons.mpr ⟨w_iload_n (by decide +kernel : decode (zb 175) 34 = .ok (.iload_n 0, 1)) rfl, List.forall_mem_cons.mpr ⟨w_iload_n (by decide +kernel : decode (zb 175) 35 = .ok (.iload_n 0, 1)) rfl, List.forall_mem_cons.mpr ⟨w_bipush (by decide +kernel : decode (zb 175) 36 = .ok (.bipush 8, 2)) rfl, List.forall_mem_cons.mpr ⟨w_iushr (by decide +kernel : decode (zb 175) 38 = .ok (.iushr, 1)), List.forall_mem_cons.mpr ⟨w_iadd (by decide +kernel : decode (zb 175) 39 = .ok (.iadd, 1)), List.forall_mem_cons.mpr ⟨w_istore_n (by decide +kernel : decode (zb 175) 40 = .ok (.istore_n 0, 1)) rfl, List.forall_mem_cons.mpr ⟨w_iload_n (by decide +kernel : decode (zb 175) 41 = .ok (.iload_n 0, 1)) rfl, List.forall_mem_cons.mpr ⟨w_iload_n (by decide +kernel : decode (zb 175) 42 = .ok (.iload_n 0, 1)) rfl, List.forall_mem_cons.mpr ⟨w_bipush (by decide +kernel : decode (zb 175) 43 = .ok (.bipush 16, 2)) rfl, List.forall_mem_cons.mpr ⟨w_iushr (by decide +kernel : decode (zb 175) 45 = .ok (.iushr, 1)), List.forall_mem_cons.mpr ⟨w_iadd (by decide +kernel : decode (zb 175) 46 = .ok (.iadd, 1)), List.forall_mem_cons.mpr ⟨w_istore_n (by decide +kernel : decode (zb 175) 47 = .ok (.istore_n 0, 1)) rfl, List.forall_mem_cons.mpr ⟨w_iload_n (by decide +kernel : decode (zb 175) 48 = .ok (.iload_n 0, 1)) rfl, List.forall_mem_cons.mpr ⟨w_bipush (by decide +kernel : decode (zb 175) 49 = .ok (.bipush 63, 2)) rfl, fun _ h => absurd h List.not_mem_nil⟩⟩⟩⟩⟩⟩⟩⟩⟩⟩⟩⟩⟩⟩⟩⟩⟩⟩⟩⟩⟩⟩⟩⟩⟩⟩⟩⟩⟩⟩⟩⟩⟩⟩⟩⟩⟩⟩⟩⟩
set_option maxRecDepth 100000 in
set_option maxHeartbeats 4000000 in
theorem zs175_1 : ∀ q ∈ ([(51, z_iand), (52, z_ir)] : List (Nat × ZIns)), zSn 175 q := List.forall_mem_cons.mpr ⟨w_iand (by decide +kernel : decode (zb 175) 51 = .ok (.iand, 1)), List.forall_mem_cons.mpr ⟨w_ir (by decide +kernel : decode (zb 175) 52 = .ok (.ireturn, 1)) rfl, fun _ h => absurd h List.not_mem_nil⟩⟩
theorem zs175 : ∀ q ∈ zc175, zSn 175 q := List.forall_mem_append.mpr ⟨zs175_0, zs175_1⟩
end
