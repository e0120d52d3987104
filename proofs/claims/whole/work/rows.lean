section
-- ===== PART A: goes FIRST, ahead of the names: the tables' words, and 'selects' of the private methods out of them =====
/-- a private method of a class that the tables say can be made, by its rows of tables_1 -/
def lw_okq (q : MethodName × Nat) : Prop := (q.1.cls ≠ "java/lang/invoke/MethodHandle" ∧ q.1.cls ≠ "java/lang/invoke/VarHandle") ∧ Cond.instantiable q.1.cls q.2 ∈ tables_1 ∧ Cond.privateMethod q.1 ∈ tables_1 ∧ Cond.instanceMethod q.1 ∈ tables_1
theorem lw_p0 : lw_okq (⟨"RainCover$Valley", "clear", "()V"⟩, 11) := ⟨⟨by decide +kernel, by decide +kernel⟩, List.mem_of_getElem? (i := 24) (by decide +kernel), List.mem_of_getElem? (i := 32) (by decide +kernel), List.mem_of_getElem? (i := 33) (by decide +kernel)⟩
theorem lw_p1 : lw_okq (⟨"RainCover$Valley", "clearDebts", "()V"⟩, 11) := ⟨⟨by decide +kernel, by decide +kernel⟩, List.mem_of_getElem? (i := 24) (by decide +kernel), List.mem_of_getElem? (i := 36) (by decide +kernel), List.mem_of_getElem? (i := 37) (by decide +kernel)⟩
theorem lw_p2 : lw_okq (⟨"RainCover$Reader", "append", "(I)I"⟩, 11) := ⟨⟨by decide +kernel, by decide +kernel⟩, List.mem_of_getElem? (i := 99) (by decide +kernel), List.mem_of_getElem? (i := 259) (by decide +kernel), List.mem_of_getElem? (i := 260) (by decide +kernel)⟩
theorem lw_p3 : lw_okq (⟨"RainCover$Reader", "takeAll", "()I"⟩, 11) := ⟨⟨by decide +kernel, by decide +kernel⟩, List.mem_of_getElem? (i := 99) (by decide +kernel), List.mem_of_getElem? (i := 271) (by decide +kernel), List.mem_of_getElem? (i := 272) (by decide +kernel)⟩
theorem lw_p4 : lw_okq (⟨"RainCover$Reader", "begin", "()V"⟩, 11) := ⟨⟨by decide +kernel, by decide +kernel⟩, List.mem_of_getElem? (i := 99) (by decide +kernel), List.mem_of_getElem? (i := 275) (by decide +kernel), List.mem_of_getElem? (i := 276) (by decide +kernel)⟩
theorem lw_p5 : lw_okq (⟨"RainCover$Reader", "advance", "()V"⟩, 11) := ⟨⟨by decide +kernel, by decide +kernel⟩, List.mem_of_getElem? (i := 99) (by decide +kernel), List.mem_of_getElem? (i := 280) (by decide +kernel), List.mem_of_getElem? (i := 281) (by decide +kernel)⟩
theorem lw_p6 : lw_okq (⟨"RainCover$Reader", "readName", "()V"⟩, 11) := ⟨⟨by decide +kernel, by decide +kernel⟩, List.mem_of_getElem? (i := 99) (by decide +kernel), List.mem_of_getElem? (i := 287) (by decide +kernel), List.mem_of_getElem? (i := 288) (by decide +kernel)⟩
theorem lw_p7 : lw_okq (⟨"RainCover$Reader", "readNumber", "()V"⟩, 11) := ⟨⟨by decide +kernel, by decide +kernel⟩, List.mem_of_getElem? (i := 99) (by decide +kernel), List.mem_of_getElem? (i := 294) (by decide +kernel), List.mem_of_getElem? (i := 295) (by decide +kernel)⟩
theorem lw_p8 : lw_okq (⟨"RainCover$Reader", "takeLine", "()V"⟩, 11) := ⟨⟨by decide +kernel, by decide +kernel⟩, List.mem_of_getElem? (i := 99) (by decide +kernel), List.mem_of_getElem? (i := 298) (by decide +kernel), List.mem_of_getElem? (i := 299) (by decide +kernel)⟩
theorem lw_p9 : lw_okq (⟨"RainCover$Reader", "expect", "(I)V"⟩, 11) := ⟨⟨by decide +kernel, by decide +kernel⟩, List.mem_of_getElem? (i := 99) (by decide +kernel), List.mem_of_getElem? (i := 302) (by decide +kernel), List.mem_of_getElem? (i := 303) (by decide +kernel)⟩
theorem lw_p10 : lw_okq (⟨"RainCover$Reader", "refuseIf", "(ZI)V"⟩, 11) := ⟨⟨by decide +kernel, by decide +kernel⟩, List.mem_of_getElem? (i := 99) (by decide +kernel), List.mem_of_getElem? (i := 306) (by decide +kernel), List.mem_of_getElem? (i := 307) (by decide +kernel)⟩
theorem lw_p11 : lw_okq (⟨"RainCover$Reader", "wordHere", "()I"⟩, 11) := ⟨⟨by decide +kernel, by decide +kernel⟩, List.mem_of_getElem? (i := 99) (by decide +kernel), List.mem_of_getElem? (i := 310) (by decide +kernel), List.mem_of_getElem? (i := 311) (by decide +kernel)⟩
theorem lw_p12 : lw_okq (⟨"RainCover$Reader", "spells", "(Ljava/lang/String;)Z"⟩, 11) := ⟨⟨by decide +kernel, by decide +kernel⟩, List.mem_of_getElem? (i := 99) (by decide +kernel), List.mem_of_getElem? (i := 329) (by decide +kernel), List.mem_of_getElem? (i := 330) (by decide +kernel)⟩
theorem lw_p13 : lw_okq (⟨"RainCover$Reader", "takeOne", "(I)V"⟩, 11) := ⟨⟨by decide +kernel, by decide +kernel⟩, List.mem_of_getElem? (i := 99) (by decide +kernel), List.mem_of_getElem? (i := 381) (by decide +kernel), List.mem_of_getElem? (i := 382) (by decide +kernel)⟩
theorem lw_p14 : lw_okq (⟨"RainCover$Reader", "takeNumber", "(II)I"⟩, 11) := ⟨⟨by decide +kernel, by decide +kernel⟩, List.mem_of_getElem? (i := 99) (by decide +kernel), List.mem_of_getElem? (i := 385) (by decide +kernel), List.mem_of_getElem? (i := 386) (by decide +kernel)⟩
theorem lw_p15 : lw_okq (⟨"RainCover$Reader", "takeSemicolon", "()V"⟩, 11) := ⟨⟨by decide +kernel, by decide +kernel⟩, List.mem_of_getElem? (i := 99) (by decide +kernel), List.mem_of_getElem? (i := 390) (by decide +kernel), List.mem_of_getElem? (i := 391) (by decide +kernel)⟩
def lw_privs_1 : List (MethodName × Nat) := [(⟨"RainCover$Valley", "clear", "()V"⟩, 11), (⟨"RainCover$Valley", "clearDebts", "()V"⟩, 11), (⟨"RainCover$Reader", "append", "(I)I"⟩, 11), (⟨"RainCover$Reader", "takeAll", "()I"⟩, 11), (⟨"RainCover$Reader", "begin", "()V"⟩, 11), (⟨"RainCover$Reader", "advance", "()V"⟩, 11), (⟨"RainCover$Reader", "readName", "()V"⟩, 11), (⟨"RainCover$Reader", "readNumber", "()V"⟩, 11), (⟨"RainCover$Reader", "takeLine", "()V"⟩, 11), (⟨"RainCover$Reader", "expect", "(I)V"⟩, 11), (⟨"RainCover$Reader", "refuseIf", "(ZI)V"⟩, 11), (⟨"RainCover$Reader", "wordHere", "()I"⟩, 11), (⟨"RainCover$Reader", "spells", "(Ljava/lang/String;)Z"⟩, 11), (⟨"RainCover$Reader", "takeOne", "(I)V"⟩, 11), (⟨"RainCover$Reader", "takeNumber", "(II)I"⟩, 11), (⟨"RainCover$Reader", "takeSemicolon", "()V"⟩, 11)]
theorem lw_r1 : ∀ q ∈ lw_privs_1, lw_okq q := List.forall_mem_cons.mpr ⟨lw_p0, List.forall_mem_cons.mpr ⟨lw_p1, List.forall_mem_cons.mpr ⟨lw_p2, List.forall_mem_cons.mpr ⟨lw_p3, List.forall_mem_cons.mpr ⟨lw_p4, List.forall_mem_cons.mpr ⟨lw_p5, List.forall_mem_cons.mpr ⟨lw_p6, List.forall_mem_cons.mpr ⟨lw_p7, List.forall_mem_cons.mpr ⟨lw_p8, List.forall_mem_cons.mpr ⟨lw_p9, List.forall_mem_cons.mpr ⟨lw_p10, List.forall_mem_cons.mpr ⟨lw_p11, List.forall_mem_cons.mpr ⟨lw_p12, List.forall_mem_cons.mpr ⟨lw_p13, List.forall_mem_cons.mpr ⟨lw_p14, List.forall_mem_cons.mpr ⟨lw_p15, fun _ h => absurd h List.not_mem_nil⟩⟩⟩⟩⟩⟩⟩⟩⟩⟩⟩⟩⟩⟩⟩⟩
theorem lw_p16 : lw_okq (⟨"RainCover$Valley", "addOne", "(III)V"⟩, 11) := ⟨⟨by decide +kernel, by decide +kernel⟩, List.mem_of_getElem? (i := 24) (by decide +kernel), List.mem_of_getElem? (i := 394) (by decide +kernel), List.mem_of_getElem? (i := 395) (by decide +kernel)⟩
theorem lw_p17 : lw_okq (⟨"RainCover$Reader", "takeCover", "()V"⟩, 11) := ⟨⟨by decide +kernel, by decide +kernel⟩, List.mem_of_getElem? (i := 99) (by decide +kernel), List.mem_of_getElem? (i := 398) (by decide +kernel), List.mem_of_getElem? (i := 399) (by decide +kernel)⟩
theorem lw_p18 : lw_okq (⟨"RainCover$Reader", "weatherHere", "()I"⟩, 11) := ⟨⟨by decide +kernel, by decide +kernel⟩, List.mem_of_getElem? (i := 99) (by decide +kernel), List.mem_of_getElem? (i := 402) (by decide +kernel), List.mem_of_getElem? (i := 403) (by decide +kernel)⟩
theorem lw_p19 : lw_okq (⟨"RainCover$Valley", "addCover", "(IIIII)V"⟩, 11) := ⟨⟨by decide +kernel, by decide +kernel⟩, List.mem_of_getElem? (i := 24) (by decide +kernel), List.mem_of_getElem? (i := 409) (by decide +kernel), List.mem_of_getElem? (i := 410) (by decide +kernel)⟩
theorem lw_p20 : lw_okq (⟨"RainCover$Reader", "takeOdds", "()V"⟩, 11) := ⟨⟨by decide +kernel, by decide +kernel⟩, List.mem_of_getElem? (i := 99) (by decide +kernel), List.mem_of_getElem? (i := 413) (by decide +kernel), List.mem_of_getElem? (i := 414) (by decide +kernel)⟩
theorem lw_p21 : lw_okq (⟨"RainCover$Reader", "takeFloor", "()V"⟩, 11) := ⟨⟨by decide +kernel, by decide +kernel⟩, List.mem_of_getElem? (i := 99) (by decide +kernel), List.mem_of_getElem? (i := 417) (by decide +kernel), List.mem_of_getElem? (i := 418) (by decide +kernel)⟩
theorem lw_p22 : lw_okq (⟨"RainCover$Reader", "takeSky", "()V"⟩, 11) := ⟨⟨by decide +kernel, by decide +kernel⟩, List.mem_of_getElem? (i := 99) (by decide +kernel), List.mem_of_getElem? (i := 421) (by decide +kernel), List.mem_of_getElem? (i := 422) (by decide +kernel)⟩
theorem lw_p23 : lw_okq (⟨"RainCover$Valley", "addPlanned", "(I)V"⟩, 11) := ⟨⟨by decide +kernel, by decide +kernel⟩, List.mem_of_getElem? (i := 24) (by decide +kernel), List.mem_of_getElem? (i := 425) (by decide +kernel), List.mem_of_getElem? (i := 426) (by decide +kernel)⟩
theorem lw_p24 : lw_okq (⟨"RainCover$Reader", "namesStranger", "()Z"⟩, 11) := ⟨⟨by decide +kernel, by decide +kernel⟩, List.mem_of_getElem? (i := 99) (by decide +kernel), List.mem_of_getElem? (i := 429) (by decide +kernel), List.mem_of_getElem? (i := 430) (by decide +kernel)⟩
theorem lw_p25 : lw_okq (⟨"RainCover$Valley", "copyFrom", "(LRainCover$Valley;)V"⟩, 11) := ⟨⟨by decide +kernel, by decide +kernel⟩, List.mem_of_getElem? (i := 24) (by decide +kernel), List.mem_of_getElem? (i := 433) (by decide +kernel), List.mem_of_getElem? (i := 434) (by decide +kernel)⟩
theorem lw_p26 : lw_okq (⟨"RainCover$Valley", "belowFloor", "()I"⟩, 11) := ⟨⟨by decide +kernel, by decide +kernel⟩, List.mem_of_getElem? (i := 24) (by decide +kernel), List.mem_of_getElem? (i := 455) (by decide +kernel), List.mem_of_getElem? (i := 456) (by decide +kernel)⟩
theorem lw_p27 : lw_okq (⟨"RainCover", "isOne", "(I)Z"⟩, 10) := ⟨⟨by decide +kernel, by decide +kernel⟩, List.mem_of_getElem? (i := 16) (by decide +kernel), List.mem_of_getElem? (i := 463) (by decide +kernel), List.mem_of_getElem? (i := 464) (by decide +kernel)⟩
theorem lw_p28 : lw_okq (⟨"RainCover$Valley", "coversWith", "(II)I"⟩, 11) := ⟨⟨by decide +kernel, by decide +kernel⟩, List.mem_of_getElem? (i := 24) (by decide +kernel), List.mem_of_getElem? (i := 467) (by decide +kernel), List.mem_of_getElem? (i := 468) (by decide +kernel)⟩
theorem lw_p29 : lw_okq (⟨"RainCover$Valley", "gainOf", "(II)I"⟩, 11) := ⟨⟨by decide +kernel, by decide +kernel⟩, List.mem_of_getElem? (i := 24) (by decide +kernel), List.mem_of_getElem? (i := 476) (by decide +kernel), List.mem_of_getElem? (i := 477) (by decide +kernel)⟩
theorem lw_p30 : lw_okq (⟨"RainCover", "isCover", "(I)Z"⟩, 10) := ⟨⟨by decide +kernel, by decide +kernel⟩, List.mem_of_getElem? (i := 16) (by decide +kernel), List.mem_of_getElem? (i := 486) (by decide +kernel), List.mem_of_getElem? (i := 487) (by decide +kernel)⟩
theorem lw_p31 : lw_okq (⟨"RainCover$Valley", "removeCover", "(I)V"⟩, 11) := ⟨⟨by decide +kernel, by decide +kernel⟩, List.mem_of_getElem? (i := 24) (by decide +kernel), List.mem_of_getElem? (i := 525) (by decide +kernel), List.mem_of_getElem? (i := 526) (by decide +kernel)⟩
def lw_privs_2 : List (MethodName × Nat) := [(⟨"RainCover$Valley", "addOne", "(III)V"⟩, 11), (⟨"RainCover$Reader", "takeCover", "()V"⟩, 11), (⟨"RainCover$Reader", "weatherHere", "()I"⟩, 11), (⟨"RainCover$Valley", "addCover", "(IIIII)V"⟩, 11), (⟨"RainCover$Reader", "takeOdds", "()V"⟩, 11), (⟨"RainCover$Reader", "takeFloor", "()V"⟩, 11), (⟨"RainCover$Reader", "takeSky", "()V"⟩, 11), (⟨"RainCover$Valley", "addPlanned", "(I)V"⟩, 11), (⟨"RainCover$Reader", "namesStranger", "()Z"⟩, 11), (⟨"RainCover$Valley", "copyFrom", "(LRainCover$Valley;)V"⟩, 11), (⟨"RainCover$Valley", "belowFloor", "()I"⟩, 11), (⟨"RainCover", "isOne", "(I)Z"⟩, 10), (⟨"RainCover$Valley", "coversWith", "(II)I"⟩, 11), (⟨"RainCover$Valley", "gainOf", "(II)I"⟩, 11), (⟨"RainCover", "isCover", "(I)Z"⟩, 10), (⟨"RainCover$Valley", "removeCover", "(I)V"⟩, 11)]
theorem lw_r2 : ∀ q ∈ lw_privs_2, lw_okq q := List.forall_mem_cons.mpr ⟨lw_p16, List.forall_mem_cons.mpr ⟨lw_p17, List.forall_mem_cons.mpr ⟨lw_p18, List.forall_mem_cons.mpr ⟨lw_p19, List.forall_mem_cons.mpr ⟨lw_p20, List.forall_mem_cons.mpr ⟨lw_p21, List.forall_mem_cons.mpr ⟨lw_p22, List.forall_mem_cons.mpr ⟨lw_p23, List.forall_mem_cons.mpr ⟨lw_p24, List.forall_mem_cons.mpr ⟨lw_p25, List.forall_mem_cons.mpr ⟨lw_p26, List.forall_mem_cons.mpr ⟨lw_p27, List.forall_mem_cons.mpr ⟨lw_p28, List.forall_mem_cons.mpr ⟨lw_p29, List.forall_mem_cons.mpr ⟨lw_p30, List.forall_mem_cons.mpr ⟨lw_p31, fun _ h => absurd h List.not_mem_nil⟩⟩⟩⟩⟩⟩⟩⟩⟩⟩⟩⟩⟩⟩⟩⟩
theorem lw_p32 : lw_okq (⟨"RainCover$Valley", "goWeek", "(I)I"⟩, 11) := ⟨⟨by decide +kernel, by decide +kernel⟩, List.mem_of_getElem? (i := 24) (by decide +kernel), List.mem_of_getElem? (i := 550) (by decide +kernel), List.mem_of_getElem? (i := 551) (by decide +kernel)⟩
theorem lw_p33 : lw_okq (⟨"RainCover$Valley", "live", "(I)I"⟩, 11) := ⟨⟨by decide +kernel, by decide +kernel⟩, List.mem_of_getElem? (i := 24) (by decide +kernel), List.mem_of_getElem? (i := 555) (by decide +kernel), List.mem_of_getElem? (i := 556) (by decide +kernel)⟩
theorem lw_p34 : lw_okq (⟨"RainCover$Valley", "hand", "(III)I"⟩, 11) := ⟨⟨by decide +kernel, by decide +kernel⟩, List.mem_of_getElem? (i := 24) (by decide +kernel), List.mem_of_getElem? (i := 563) (by decide +kernel), List.mem_of_getElem? (i := 564) (by decide +kernel)⟩
theorem lw_p35 : lw_okq (⟨"RainCover", "followPlan", "(Z)I"⟩, 10) := ⟨⟨by decide +kernel, by decide +kernel⟩, List.mem_of_getElem? (i := 16) (by decide +kernel), List.mem_of_getElem? (i := 571) (by decide +kernel), List.mem_of_getElem? (i := 572) (by decide +kernel)⟩
theorem lw_p36 : lw_okq (⟨"RainCover$Valley", "allPurses", "()I"⟩, 11) := ⟨⟨by decide +kernel, by decide +kernel⟩, List.mem_of_getElem? (i := 24) (by decide +kernel), List.mem_of_getElem? (i := 576) (by decide +kernel), List.mem_of_getElem? (i := 577) (by decide +kernel)⟩
theorem lw_p37 : lw_okq (⟨"RainCover$Valley", "allDebts", "()I"⟩, 11) := ⟨⟨by decide +kernel, by decide +kernel⟩, List.mem_of_getElem? (i := 24) (by decide +kernel), List.mem_of_getElem? (i := 580) (by decide +kernel), List.mem_of_getElem? (i := 581) (by decide +kernel)⟩
theorem lw_p38 : lw_okq (⟨"RainCover$Outlook", "grow", "(LRainCover$Valley;I)V"⟩, 7) := ⟨⟨by decide +kernel, by decide +kernel⟩, List.mem_of_getElem? (i := 145) (by decide +kernel), List.mem_of_getElem? (i := 595) (by decide +kernel), List.mem_of_getElem? (i := 596) (by decide +kernel)⟩
theorem lw_p39 : lw_okq (⟨"RainCover$Outlook", "beginWith", "(LRainCover$Valley;)V"⟩, 7) := ⟨⟨by decide +kernel, by decide +kernel⟩, List.mem_of_getElem? (i := 145) (by decide +kernel), List.mem_of_getElem? (i := 599) (by decide +kernel), List.mem_of_getElem? (i := 600) (by decide +kernel)⟩
theorem lw_p40 : lw_okq (⟨"RainCover$Outlook", "step", "(II)V"⟩, 7) := ⟨⟨by decide +kernel, by decide +kernel⟩, List.mem_of_getElem? (i := 145) (by decide +kernel), List.mem_of_getElem? (i := 607) (by decide +kernel), List.mem_of_getElem? (i := 608) (by decide +kernel)⟩
theorem lw_p41 : lw_okq (⟨"RainCover$Outlook", "firstLeast", "(II)I"⟩, 7) := ⟨⟨by decide +kernel, by decide +kernel⟩, List.mem_of_getElem? (i := 145) (by decide +kernel), List.mem_of_getElem? (i := 615) (by decide +kernel), List.mem_of_getElem? (i := 616) (by decide +kernel)⟩
theorem lw_p42 : lw_okq (⟨"RainCover$Outlook", "purseBehind", "(III)I"⟩, 7) := ⟨⟨by decide +kernel, by decide +kernel⟩, List.mem_of_getElem? (i := 145) (by decide +kernel), List.mem_of_getElem? (i := 622) (by decide +kernel), List.mem_of_getElem? (i := 623) (by decide +kernel)⟩
theorem lw_p43 : lw_okq (⟨"RainCover$Outlook", "greatest", "(II)I"⟩, 7) := ⟨⟨by decide +kernel, by decide +kernel⟩, List.mem_of_getElem? (i := 145) (by decide +kernel), List.mem_of_getElem? (i := 627) (by decide +kernel), List.mem_of_getElem? (i := 628) (by decide +kernel)⟩
theorem lw_p44 : lw_okq (⟨"RainCover$Outlook", "safeBits", "(II)I"⟩, 7) := ⟨⟨by decide +kernel, by decide +kernel⟩, List.mem_of_getElem? (i := 145) (by decide +kernel), List.mem_of_getElem? (i := 637) (by decide +kernel), List.mem_of_getElem? (i := 638) (by decide +kernel)⟩
theorem lw_p45 : lw_okq (⟨"RainCover$Outlook", "walkDown", "(II)V"⟩, 7) := ⟨⟨by decide +kernel, by decide +kernel⟩, List.mem_of_getElem? (i := 145) (by decide +kernel), List.mem_of_getElem? (i := 647) (by decide +kernel), List.mem_of_getElem? (i := 648) (by decide +kernel)⟩
theorem lw_p46 : lw_okq (⟨"RainCover$Outlook", "belowFloor", "(I)I"⟩, 7) := ⟨⟨by decide +kernel, by decide +kernel⟩, List.mem_of_getElem? (i := 145) (by decide +kernel), List.mem_of_getElem? (i := 651) (by decide +kernel), List.mem_of_getElem? (i := 652) (by decide +kernel)⟩
theorem lw_p47 : lw_okq (⟨"RainCover$Outlook", "searchMore", "(LRainCover$Valley;I)V"⟩, 7) := ⟨⟨by decide +kernel, by decide +kernel⟩, List.mem_of_getElem? (i := 145) (by decide +kernel), List.mem_of_getElem? (i := 663) (by decide +kernel), List.mem_of_getElem? (i := 664) (by decide +kernel)⟩
def lw_privs_3 : List (MethodName × Nat) := [(⟨"RainCover$Valley", "goWeek", "(I)I"⟩, 11), (⟨"RainCover$Valley", "live", "(I)I"⟩, 11), (⟨"RainCover$Valley", "hand", "(III)I"⟩, 11), (⟨"RainCover", "followPlan", "(Z)I"⟩, 10), (⟨"RainCover$Valley", "allPurses", "()I"⟩, 11), (⟨"RainCover$Valley", "allDebts", "()I"⟩, 11), (⟨"RainCover$Outlook", "grow", "(LRainCover$Valley;I)V"⟩, 7), (⟨"RainCover$Outlook", "beginWith", "(LRainCover$Valley;)V"⟩, 7), (⟨"RainCover$Outlook", "step", "(II)V"⟩, 7), (⟨"RainCover$Outlook", "firstLeast", "(II)I"⟩, 7), (⟨"RainCover$Outlook", "purseBehind", "(III)I"⟩, 7), (⟨"RainCover$Outlook", "greatest", "(II)I"⟩, 7), (⟨"RainCover$Outlook", "safeBits", "(II)I"⟩, 7), (⟨"RainCover$Outlook", "walkDown", "(II)V"⟩, 7), (⟨"RainCover$Outlook", "belowFloor", "(I)I"⟩, 7), (⟨"RainCover$Outlook", "searchMore", "(LRainCover$Valley;I)V"⟩, 7)]
theorem lw_r3 : ∀ q ∈ lw_privs_3, lw_okq q := List.forall_mem_cons.mpr ⟨lw_p32, List.forall_mem_cons.mpr ⟨lw_p33, List.forall_mem_cons.mpr ⟨lw_p34, List.forall_mem_cons.mpr ⟨lw_p35, List.forall_mem_cons.mpr ⟨lw_p36, List.forall_mem_cons.mpr ⟨lw_p37, List.forall_mem_cons.mpr ⟨lw_p38, List.forall_mem_cons.mpr ⟨lw_p39, List.forall_mem_cons.mpr ⟨lw_p40, List.forall_mem_cons.mpr ⟨lw_p41, List.forall_mem_cons.mpr ⟨lw_p42, List.forall_mem_cons.mpr ⟨lw_p43, List.forall_mem_cons.mpr ⟨lw_p44, List.forall_mem_cons.mpr ⟨lw_p45, List.forall_mem_cons.mpr ⟨lw_p46, List.forall_mem_cons.mpr ⟨lw_p47, fun _ h => absurd h List.not_mem_nil⟩⟩⟩⟩⟩⟩⟩⟩⟩⟩⟩⟩⟩⟩⟩⟩
theorem lw_p48 : lw_okq (⟨"RainCover$Outlook", "begin", "(I)V"⟩, 7) := ⟨⟨by decide +kernel, by decide +kernel⟩, List.mem_of_getElem? (i := 145) (by decide +kernel), List.mem_of_getElem? (i := 668) (by decide +kernel), List.mem_of_getElem? (i := 669) (by decide +kernel)⟩
theorem lw_p49 : lw_okq (⟨"RainCover$Outlook", "offerMore", "(I)V"⟩, 7) := ⟨⟨by decide +kernel, by decide +kernel⟩, List.mem_of_getElem? (i := 145) (by decide +kernel), List.mem_of_getElem? (i := 673) (by decide +kernel), List.mem_of_getElem? (i := 674) (by decide +kernel)⟩
theorem lw_p50 : lw_okq (⟨"RainCover$Outlook", "found", "(I)I"⟩, 7) := ⟨⟨by decide +kernel, by decide +kernel⟩, List.mem_of_getElem? (i := 145) (by decide +kernel), List.mem_of_getElem? (i := 677) (by decide +kernel), List.mem_of_getElem? (i := 678) (by decide +kernel)⟩
theorem lw_p51 : lw_okq (⟨"RainCover$Outlook", "searchFewer", "(LRainCover$Valley;)V"⟩, 7) := ⟨⟨by decide +kernel, by decide +kernel⟩, List.mem_of_getElem? (i := 145) (by decide +kernel), List.mem_of_getElem? (i := 685) (by decide +kernel), List.mem_of_getElem? (i := 686) (by decide +kernel)⟩
theorem lw_p52 : lw_okq (⟨"RainCover$Valley", "dueIn", "(I)I"⟩, 11) := ⟨⟨by decide +kernel, by decide +kernel⟩, List.mem_of_getElem? (i := 24) (by decide +kernel), List.mem_of_getElem? (i := 694) (by decide +kernel), List.mem_of_getElem? (i := 695) (by decide +kernel)⟩
theorem lw_p53 : lw_okq (⟨"RainCover$Outlook", "weighPurses", "(II)J"⟩, 7) := ⟨⟨by decide +kernel, by decide +kernel⟩, List.mem_of_getElem? (i := 145) (by decide +kernel), List.mem_of_getElem? (i := 703) (by decide +kernel), List.mem_of_getElem? (i := 704) (by decide +kernel)⟩
theorem lw_p54 : lw_okq (⟨"RainCover$Outlook", "weightOf", "(II)J"⟩, 7) := ⟨⟨by decide +kernel, by decide +kernel⟩, List.mem_of_getElem? (i := 145) (by decide +kernel), List.mem_of_getElem? (i := 707) (by decide +kernel), List.mem_of_getElem? (i := 708) (by decide +kernel)⟩
theorem lw_p55 : lw_okq (⟨"RainCover$Outlook", "weighLuck", "(II)J"⟩, 7) := ⟨⟨by decide +kernel, by decide +kernel⟩, List.mem_of_getElem? (i := 145) (by decide +kernel), List.mem_of_getElem? (i := 727) (by decide +kernel), List.mem_of_getElem? (i := 728) (by decide +kernel)⟩
theorem lw_p56 : lw_okq (⟨"RainCover$Valley", "balanceOf", "(I)I"⟩, 11) := ⟨⟨by decide +kernel, by decide +kernel⟩, List.mem_of_getElem? (i := 24) (by decide +kernel), List.mem_of_getElem? (i := 741) (by decide +kernel), List.mem_of_getElem? (i := 742) (by decide +kernel)⟩
theorem lw_p57 : lw_okq (⟨"RainCover$Sightings", "add", "(III)V"⟩, 4) := ⟨⟨by decide +kernel, by decide +kernel⟩, List.mem_of_getElem? (i := 177) (by decide +kernel), List.mem_of_getElem? (i := 754) (by decide +kernel), List.mem_of_getElem? (i := 755) (by decide +kernel)⟩
theorem lw_p58 : lw_okq (⟨"RainCover$Outlook", "findFitting", "(LRainCover$Valley;LRainCover$Sightings;)V"⟩, 7) := ⟨⟨by decide +kernel, by decide +kernel⟩, List.mem_of_getElem? (i := 145) (by decide +kernel), List.mem_of_getElem? (i := 766) (by decide +kernel), List.mem_of_getElem? (i := 767) (by decide +kernel)⟩
theorem lw_p59 : lw_okq (⟨"RainCover$Outlook", "isAsSeen", "(ILRainCover$Sightings;)Z"⟩, 7) := ⟨⟨by decide +kernel, by decide +kernel⟩, List.mem_of_getElem? (i := 145) (by decide +kernel), List.mem_of_getElem? (i := 771) (by decide +kernel), List.mem_of_getElem? (i := 772) (by decide +kernel)⟩
theorem lw_p60 : lw_okq (⟨"RainCover$Outlook", "purseWithin", "(III)I"⟩, 7) := ⟨⟨by decide +kernel, by decide +kernel⟩, List.mem_of_getElem? (i := 145) (by decide +kernel), List.mem_of_getElem? (i := 775) (by decide +kernel), List.mem_of_getElem? (i := 776) (by decide +kernel)⟩
theorem lw_p61 : lw_okq (⟨"RainCover$Outlook", "fittingIn", "(I)I"⟩, 7) := ⟨⟨by decide +kernel, by decide +kernel⟩, List.mem_of_getElem? (i := 145) (by decide +kernel), List.mem_of_getElem? (i := 779) (by decide +kernel), List.mem_of_getElem? (i := 780) (by decide +kernel)⟩
theorem lw_p62 : lw_okq (⟨"RainCover$Outlook", "searchLook", "()V"⟩, 7) := ⟨⟨by decide +kernel, by decide +kernel⟩, List.mem_of_getElem? (i := 145) (by decide +kernel), List.mem_of_getElem? (i := 787) (by decide +kernel), List.mem_of_getElem? (i := 788) (by decide +kernel)⟩
theorem lw_p63 : lw_okq (⟨"RainCover$Outlook", "mostLeft", "(II)I"⟩, 7) := ⟨⟨by decide +kernel, by decide +kernel⟩, List.mem_of_getElem? (i := 145) (by decide +kernel), List.mem_of_getElem? (i := 791) (by decide +kernel), List.mem_of_getElem? (i := 792) (by decide +kernel)⟩
def lw_privs_4 : List (MethodName × Nat) := [(⟨"RainCover$Outlook", "begin", "(I)V"⟩, 7), (⟨"RainCover$Outlook", "offerMore", "(I)V"⟩, 7), (⟨"RainCover$Outlook", "found", "(I)I"⟩, 7), (⟨"RainCover$Outlook", "searchFewer", "(LRainCover$Valley;)V"⟩, 7), (⟨"RainCover$Valley", "dueIn", "(I)I"⟩, 11), (⟨"RainCover$Outlook", "weighPurses", "(II)J"⟩, 7), (⟨"RainCover$Outlook", "weightOf", "(II)J"⟩, 7), (⟨"RainCover$Outlook", "weighLuck", "(II)J"⟩, 7), (⟨"RainCover$Valley", "balanceOf", "(I)I"⟩, 11), (⟨"RainCover$Sightings", "add", "(III)V"⟩, 4), (⟨"RainCover$Outlook", "findFitting", "(LRainCover$Valley;LRainCover$Sightings;)V"⟩, 7), (⟨"RainCover$Outlook", "isAsSeen", "(ILRainCover$Sightings;)Z"⟩, 7), (⟨"RainCover$Outlook", "purseWithin", "(III)I"⟩, 7), (⟨"RainCover$Outlook", "fittingIn", "(I)I"⟩, 7), (⟨"RainCover$Outlook", "searchLook", "()V"⟩, 7), (⟨"RainCover$Outlook", "mostLeft", "(II)I"⟩, 7)]
theorem lw_r4 : ∀ q ∈ lw_privs_4, lw_okq q := List.forall_mem_cons.mpr ⟨lw_p48, List.forall_mem_cons.mpr ⟨lw_p49, List.forall_mem_cons.mpr ⟨lw_p50, List.forall_mem_cons.mpr ⟨lw_p51, List.forall_mem_cons.mpr ⟨lw_p52, List.forall_mem_cons.mpr ⟨lw_p53, List.forall_mem_cons.mpr ⟨lw_p54, List.forall_mem_cons.mpr ⟨lw_p55, List.forall_mem_cons.mpr ⟨lw_p56, List.forall_mem_cons.mpr ⟨lw_p57, List.forall_mem_cons.mpr ⟨lw_p58, List.forall_mem_cons.mpr ⟨lw_p59, List.forall_mem_cons.mpr ⟨lw_p60, List.forall_mem_cons.mpr ⟨lw_p61, List.forall_mem_cons.mpr ⟨lw_p62, List.forall_mem_cons.mpr ⟨lw_p63, fun _ h => absurd h List.not_mem_nil⟩⟩⟩⟩⟩⟩⟩⟩⟩⟩⟩⟩⟩⟩⟩⟩
theorem lw_p64 : lw_okq (⟨"RainCover$Valley", "weatherAt", "(I)I"⟩, 11) := ⟨⟨by decide +kernel, by decide +kernel⟩, List.mem_of_getElem? (i := 24) (by decide +kernel), List.mem_of_getElem? (i := 800) (by decide +kernel), List.mem_of_getElem? (i := 801) (by decide +kernel)⟩
theorem lw_p65 : lw_okq (⟨"RainCover$Sheet", "renew", "(II)V"⟩, 3) := ⟨⟨by decide +kernel, by decide +kernel⟩, List.mem_of_getElem? (i := 202) (by decide +kernel), List.mem_of_getElem? (i := 822) (by decide +kernel), List.mem_of_getElem? (i := 823) (by decide +kernel)⟩
theorem lw_p66 : lw_okq (⟨"RainCover$Sheet", "faultAt", "(II)I"⟩, 3) := ⟨⟨by decide +kernel, by decide +kernel⟩, List.mem_of_getElem? (i := 202) (by decide +kernel), List.mem_of_getElem? (i := 830) (by decide +kernel), List.mem_of_getElem? (i := 831) (by decide +kernel)⟩
theorem lw_p67 : lw_okq (⟨"RainCover$Sheet", "put", "(II)V"⟩, 3) := ⟨⟨by decide +kernel, by decide +kernel⟩, List.mem_of_getElem? (i := 202) (by decide +kernel), List.mem_of_getElem? (i := 835) (by decide +kernel), List.mem_of_getElem? (i := 836) (by decide +kernel)⟩
theorem lw_p68 : lw_okq (⟨"RainCover", "imagesKept", "()I"⟩, 10) := ⟨⟨by decide +kernel, by decide +kernel⟩, List.mem_of_getElem? (i := 16) (by decide +kernel), List.mem_of_getElem? (i := 851) (by decide +kernel), List.mem_of_getElem? (i := 852) (by decide +kernel)⟩
theorem lw_p69 : lw_okq (⟨"RainCoverModel", "step", "()V"⟩, 29) := ⟨⟨by decide +kernel, by decide +kernel⟩, List.mem_of_getElem? (i := 855) (by decide +kernel), List.mem_of_getElem? (i := 965) (by decide +kernel), List.mem_of_getElem? (i := 966) (by decide +kernel)⟩
theorem lw_p70 : lw_okq (⟨"RainCoverModel", "byteAt", "(I)I"⟩, 29) := ⟨⟨by decide +kernel, by decide +kernel⟩, List.mem_of_getElem? (i := 855) (by decide +kernel), List.mem_of_getElem? (i := 969) (by decide +kernel), List.mem_of_getElem? (i := 970) (by decide +kernel)⟩
theorem lw_p71 : lw_okq (⟨"RainCoverModel", "fails", "(I)V"⟩, 29) := ⟨⟨by decide +kernel, by decide +kernel⟩, List.mem_of_getElem? (i := 855) (by decide +kernel), List.mem_of_getElem? (i := 977) (by decide +kernel), List.mem_of_getElem? (i := 978) (by decide +kernel)⟩
theorem lw_p72 : lw_okq (⟨"RainCoverModel", "readLine", "()V"⟩, 29) := ⟨⟨by decide +kernel, by decide +kernel⟩, List.mem_of_getElem? (i := 855) (by decide +kernel), List.mem_of_getElem? (i := 981) (by decide +kernel), List.mem_of_getElem? (i := 982) (by decide +kernel)⟩
theorem lw_p73 : lw_okq (⟨"RainCoverModel", "nameHere", "()I"⟩, 29) := ⟨⟨by decide +kernel, by decide +kernel⟩, List.mem_of_getElem? (i := 855) (by decide +kernel), List.mem_of_getElem? (i := 985) (by decide +kernel), List.mem_of_getElem? (i := 986) (by decide +kernel)⟩
theorem lw_p74 : lw_okq (⟨"RainCoverModel", "readMore", "(I)V"⟩, 29) := ⟨⟨by decide +kernel, by decide +kernel⟩, List.mem_of_getElem? (i := 855) (by decide +kernel), List.mem_of_getElem? (i := 990) (by decide +kernel), List.mem_of_getElem? (i := 991) (by decide +kernel)⟩
theorem lw_p75 : lw_okq (⟨"RainCoverModel", "number", "(II)I"⟩, 29) := ⟨⟨by decide +kernel, by decide +kernel⟩, List.mem_of_getElem? (i := 855) (by decide +kernel), List.mem_of_getElem? (i := 994) (by decide +kernel), List.mem_of_getElem? (i := 995) (by decide +kernel)⟩
theorem lw_p76 : lw_okq (⟨"RainCoverModel", "readCover", "()V"⟩, 29) := ⟨⟨by decide +kernel, by decide +kernel⟩, List.mem_of_getElem? (i := 855) (by decide +kernel), List.mem_of_getElem? (i := 998) (by decide +kernel), List.mem_of_getElem? (i := 999) (by decide +kernel)⟩
theorem lw_p77 : lw_okq (⟨"RainCoverModel", "oneHere", "()I"⟩, 29) := ⟨⟨by decide +kernel, by decide +kernel⟩, List.mem_of_getElem? (i := 855) (by decide +kernel), List.mem_of_getElem? (i := 1002) (by decide +kernel), List.mem_of_getElem? (i := 1003) (by decide +kernel)⟩
theorem lw_p78 : lw_okq (⟨"RainCoverModel", "weatherHere", "()I"⟩, 29) := ⟨⟨by decide +kernel, by decide +kernel⟩, List.mem_of_getElem? (i := 855) (by decide +kernel), List.mem_of_getElem? (i := 1006) (by decide +kernel), List.mem_of_getElem? (i := 1007) (by decide +kernel)⟩
theorem lw_p79 : lw_okq (⟨"RainCoverModel", "readOdds", "()V"⟩, 29) := ⟨⟨by decide +kernel, by decide +kernel⟩, List.mem_of_getElem? (i := 855) (by decide +kernel), List.mem_of_getElem? (i := 1011) (by decide +kernel), List.mem_of_getElem? (i := 1012) (by decide +kernel)⟩
def lw_privs_5 : List (MethodName × Nat) := [(⟨"RainCover$Valley", "weatherAt", "(I)I"⟩, 11), (⟨"RainCover$Sheet", "renew", "(II)V"⟩, 3), (⟨"RainCover$Sheet", "faultAt", "(II)I"⟩, 3), (⟨"RainCover$Sheet", "put", "(II)V"⟩, 3), (⟨"RainCover", "imagesKept", "()I"⟩, 10), (⟨"RainCoverModel", "step", "()V"⟩, 29), (⟨"RainCoverModel", "byteAt", "(I)I"⟩, 29), (⟨"RainCoverModel", "fails", "(I)V"⟩, 29), (⟨"RainCoverModel", "readLine", "()V"⟩, 29), (⟨"RainCoverModel", "nameHere", "()I"⟩, 29), (⟨"RainCoverModel", "readMore", "(I)V"⟩, 29), (⟨"RainCoverModel", "number", "(II)I"⟩, 29), (⟨"RainCoverModel", "readCover", "()V"⟩, 29), (⟨"RainCoverModel", "oneHere", "()I"⟩, 29), (⟨"RainCoverModel", "weatherHere", "()I"⟩, 29), (⟨"RainCoverModel", "readOdds", "()V"⟩, 29)]
theorem lw_r5 : ∀ q ∈ lw_privs_5, lw_okq q := List.forall_mem_cons.mpr ⟨lw_p64, List.forall_mem_cons.mpr ⟨lw_p65, List.forall_mem_cons.mpr ⟨lw_p66, List.forall_mem_cons.mpr ⟨lw_p67, List.forall_mem_cons.mpr ⟨lw_p68, List.forall_mem_cons.mpr ⟨lw_p69, List.forall_mem_cons.mpr ⟨lw_p70, List.forall_mem_cons.mpr ⟨lw_p71, List.forall_mem_cons.mpr ⟨lw_p72, List.forall_mem_cons.mpr ⟨lw_p73, List.forall_mem_cons.mpr ⟨lw_p74, List.forall_mem_cons.mpr ⟨lw_p75, List.forall_mem_cons.mpr ⟨lw_p76, List.forall_mem_cons.mpr ⟨lw_p77, List.forall_mem_cons.mpr ⟨lw_p78, List.forall_mem_cons.mpr ⟨lw_p79, fun _ h => absurd h List.not_mem_nil⟩⟩⟩⟩⟩⟩⟩⟩⟩⟩⟩⟩⟩⟩⟩⟩
theorem lw_p80 : lw_okq (⟨"RainCoverModel", "readSky", "()V"⟩, 29) := ⟨⟨by decide +kernel, by decide +kernel⟩, List.mem_of_getElem? (i := 855) (by decide +kernel), List.mem_of_getElem? (i := 1018) (by decide +kernel), List.mem_of_getElem? (i := 1019) (by decide +kernel)⟩
theorem lw_p81 : lw_okq (⟨"RainCoverModel", "floorNow", "()I"⟩, 29) := ⟨⟨by decide +kernel, by decide +kernel⟩, List.mem_of_getElem? (i := 855) (by decide +kernel), List.mem_of_getElem? (i := 1030) (by decide +kernel), List.mem_of_getElem? (i := 1031) (by decide +kernel)⟩
theorem lw_p82 : lw_okq (⟨"RainCoverModel", "belowOn", "(I)I"⟩, 29) := ⟨⟨by decide +kernel, by decide +kernel⟩, List.mem_of_getElem? (i := 855) (by decide +kernel), List.mem_of_getElem? (i := 1034) (by decide +kernel), List.mem_of_getElem? (i := 1035) (by decide +kernel)⟩
theorem lw_p83 : lw_okq (⟨"RainCoverModel", "isOne", "(I)Z"⟩, 29) := ⟨⟨by decide +kernel, by decide +kernel⟩, List.mem_of_getElem? (i := 855) (by decide +kernel), List.mem_of_getElem? (i := 1042) (by decide +kernel), List.mem_of_getElem? (i := 1043) (by decide +kernel)⟩
theorem lw_p84 : lw_okq (⟨"RainCoverModel", "coversOf", "(II)I"⟩, 29) := ⟨⟨by decide +kernel, by decide +kernel⟩, List.mem_of_getElem? (i := 855) (by decide +kernel), List.mem_of_getElem? (i := 1047) (by decide +kernel), List.mem_of_getElem? (i := 1048) (by decide +kernel)⟩
theorem lw_p85 : lw_okq (⟨"RainCoverModel", "gainOf", "(II)I"⟩, 29) := ⟨⟨by decide +kernel, by decide +kernel⟩, List.mem_of_getElem? (i := 855) (by decide +kernel), List.mem_of_getElem? (i := 1058) (by decide +kernel), List.mem_of_getElem? (i := 1059) (by decide +kernel)⟩
theorem lw_p86 : lw_okq (⟨"RainCoverModel", "isCover", "(I)Z"⟩, 29) := ⟨⟨by decide +kernel, by decide +kernel⟩, List.mem_of_getElem? (i := 855) (by decide +kernel), List.mem_of_getElem? (i := 1066) (by decide +kernel), List.mem_of_getElem? (i := 1067) (by decide +kernel)⟩
theorem lw_p87 : lw_okq (⟨"RainCoverModel", "oddsOf", "(I)I"⟩, 29) := ⟨⟨by decide +kernel, by decide +kernel⟩, List.mem_of_getElem? (i := 855) (by decide +kernel), List.mem_of_getElem? (i := 1074) (by decide +kernel), List.mem_of_getElem? (i := 1075) (by decide +kernel)⟩
theorem lw_p88 : lw_okq (⟨"RainCoverModel", "puts", "(ZIII)I"⟩, 29) := ⟨⟨by decide +kernel, by decide +kernel⟩, List.mem_of_getElem? (i := 855) (by decide +kernel), List.mem_of_getElem? (i := 1092) (by decide +kernel), List.mem_of_getElem? (i := 1093) (by decide +kernel)⟩
theorem lw_p89 : lw_okq (⟨"RainCoverModel", "adds", "(IIIII)V"⟩, 29) := ⟨⟨by decide +kernel, by decide +kernel⟩, List.mem_of_getElem? (i := 855) (by decide +kernel), List.mem_of_getElem? (i := 1106) (by decide +kernel), List.mem_of_getElem? (i := 1107) (by decide +kernel)⟩
theorem lw_p90 : lw_okq (⟨"RainCoverModel", "drops", "(I)V"⟩, 29) := ⟨⟨by decide +kernel, by decide +kernel⟩, List.mem_of_getElem? (i := 855) (by decide +kernel), List.mem_of_getElem? (i := 1114) (by decide +kernel), List.mem_of_getElem? (i := 1115) (by decide +kernel)⟩
theorem lw_p91 : lw_okq (⟨"RainCoverModel", "weeks", "(I)I"⟩, 29) := ⟨⟨by decide +kernel, by decide +kernel⟩, List.mem_of_getElem? (i := 855) (by decide +kernel), List.mem_of_getElem? (i := 1139) (by decide +kernel), List.mem_of_getElem? (i := 1140) (by decide +kernel)⟩
theorem lw_p92 : lw_okq (⟨"RainCoverModel", "weekOn", "(II)I"⟩, 29) := ⟨⟨by decide +kernel, by decide +kernel⟩, List.mem_of_getElem? (i := 855) (by decide +kernel), List.mem_of_getElem? (i := 1143) (by decide +kernel), List.mem_of_getElem? (i := 1144) (by decide +kernel)⟩
theorem lw_p93 : lw_okq (⟨"RainCoverModel", "paysOn", "(IIII)Z"⟩, 29) := ⟨⟨by decide +kernel, by decide +kernel⟩, List.mem_of_getElem? (i := 855) (by decide +kernel), List.mem_of_getElem? (i := 1147) (by decide +kernel), List.mem_of_getElem? (i := 1148) (by decide +kernel)⟩
theorem lw_p94 : lw_okq (⟨"RainCoverModel", "planGoes", "()I"⟩, 29) := ⟨⟨by decide +kernel, by decide +kernel⟩, List.mem_of_getElem? (i := 855) (by decide +kernel), List.mem_of_getElem? (i := 1155) (by decide +kernel), List.mem_of_getElem? (i := 1156) (by decide +kernel)⟩
theorem lw_p95 : lw_okq (⟨"RainCoverModel", "copies", "(II)V"⟩, 29) := ⟨⟨by decide +kernel, by decide +kernel⟩, List.mem_of_getElem? (i := 855) (by decide +kernel), List.mem_of_getElem? (i := 1159) (by decide +kernel), List.mem_of_getElem? (i := 1160) (by decide +kernel)⟩
def lw_privs_6 : List (MethodName × Nat) := [(⟨"RainCoverModel", "readSky", "()V"⟩, 29), (⟨"RainCoverModel", "floorNow", "()I"⟩, 29), (⟨"RainCoverModel", "belowOn", "(I)I"⟩, 29), (⟨"RainCoverModel", "isOne", "(I)Z"⟩, 29), (⟨"RainCoverModel", "coversOf", "(II)I"⟩, 29), (⟨"RainCoverModel", "gainOf", "(II)I"⟩, 29), (⟨"RainCoverModel", "isCover", "(I)Z"⟩, 29), (⟨"RainCoverModel", "oddsOf", "(I)I"⟩, 29), (⟨"RainCoverModel", "puts", "(ZIII)I"⟩, 29), (⟨"RainCoverModel", "adds", "(IIIII)V"⟩, 29), (⟨"RainCoverModel", "drops", "(I)V"⟩, 29), (⟨"RainCoverModel", "weeks", "(I)I"⟩, 29), (⟨"RainCoverModel", "weekOn", "(II)I"⟩, 29), (⟨"RainCoverModel", "paysOn", "(IIII)Z"⟩, 29), (⟨"RainCoverModel", "planGoes", "()I"⟩, 29), (⟨"RainCoverModel", "copies", "(II)V"⟩, 29)]
theorem lw_r6 : ∀ q ∈ lw_privs_6, lw_okq q := List.forall_mem_cons.mpr ⟨lw_p80, List.forall_mem_cons.mpr ⟨lw_p81, List.forall_mem_cons.mpr ⟨lw_p82, List.forall_mem_cons.mpr ⟨lw_p83, List.forall_mem_cons.mpr ⟨lw_p84, List.forall_mem_cons.mpr ⟨lw_p85, List.forall_mem_cons.mpr ⟨lw_p86, List.forall_mem_cons.mpr ⟨lw_p87, List.forall_mem_cons.mpr ⟨lw_p88, List.forall_mem_cons.mpr ⟨lw_p89, List.forall_mem_cons.mpr ⟨lw_p90, List.forall_mem_cons.mpr ⟨lw_p91, List.forall_mem_cons.mpr ⟨lw_p92, List.forall_mem_cons.mpr ⟨lw_p93, List.forall_mem_cons.mpr ⟨lw_p94, List.forall_mem_cons.mpr ⟨lw_p95, fun _ h => absurd h List.not_mem_nil⟩⟩⟩⟩⟩⟩⟩⟩⟩⟩⟩⟩⟩⟩⟩⟩
theorem lw_p96 : lw_okq (⟨"RainCoverModel", "pursesOn", "(I)I"⟩, 29) := ⟨⟨by decide +kernel, by decide +kernel⟩, List.mem_of_getElem? (i := 855) (by decide +kernel), List.mem_of_getElem? (i := 1163) (by decide +kernel), List.mem_of_getElem? (i := 1164) (by decide +kernel)⟩
theorem lw_p97 : lw_okq (⟨"RainCoverModel", "owedOn", "(I)I"⟩, 29) := ⟨⟨by decide +kernel, by decide +kernel⟩, List.mem_of_getElem? (i := 855) (by decide +kernel), List.mem_of_getElem? (i := 1167) (by decide +kernel), List.mem_of_getElem? (i := 1168) (by decide +kernel)⟩
theorem lw_p98 : lw_okq (⟨"RainCoverModel", "skyFrom", "(III)V"⟩, 29) := ⟨⟨by decide +kernel, by decide +kernel⟩, List.mem_of_getElem? (i := 855) (by decide +kernel), List.mem_of_getElem? (i := 1184) (by decide +kernel), List.mem_of_getElem? (i := 1185) (by decide +kernel)⟩
theorem lw_p99 : lw_okq (⟨"RainCoverModel", "safeFrom", "(II)I"⟩, 29) := ⟨⟨by decide +kernel, by decide +kernel⟩, List.mem_of_getElem? (i := 855) (by decide +kernel), List.mem_of_getElem? (i := 1192) (by decide +kernel), List.mem_of_getElem? (i := 1193) (by decide +kernel)⟩
theorem lw_p100 : lw_okq (⟨"RainCoverModel", "byOdds", "(IIZI)J"⟩, 29) := ⟨⟨by decide +kernel, by decide +kernel⟩, List.mem_of_getElem? (i := 855) (by decide +kernel), List.mem_of_getElem? (i := 1219) (by decide +kernel), List.mem_of_getElem? (i := 1220) (by decide +kernel)⟩
theorem lw_p101 : lw_okq (⟨"RainCoverModel", "netOf", "(I)I"⟩, 29) := ⟨⟨by decide +kernel, by decide +kernel⟩, List.mem_of_getElem? (i := 855) (by decide +kernel), List.mem_of_getElem? (i := 1240) (by decide +kernel), List.mem_of_getElem? (i := 1241) (by decide +kernel)⟩
theorem lw_p102 : lw_okq (⟨"RainCoverModel", "netOfSome", "(I)I"⟩, 29) := ⟨⟨by decide +kernel, by decide +kernel⟩, List.mem_of_getElem? (i := 855) (by decide +kernel), List.mem_of_getElem? (i := 1244) (by decide +kernel), List.mem_of_getElem? (i := 1245) (by decide +kernel)⟩
theorem lw_p103 : lw_okq (⟨"RainCoverModel", "allSkies", "()V"⟩, 29) := ⟨⟨by decide +kernel, by decide +kernel⟩, List.mem_of_getElem? (i := 855) (by decide +kernel), List.mem_of_getElem? (i := 1266) (by decide +kernel), List.mem_of_getElem? (i := 1267) (by decide +kernel)⟩
theorem lw_p104 : lw_okq (⟨"RainCoverModel", "worstAt", "(I)I"⟩, 29) := ⟨⟨by decide +kernel, by decide +kernel⟩, List.mem_of_getElem? (i := 855) (by decide +kernel), List.mem_of_getElem? (i := 1274) (by decide +kernel), List.mem_of_getElem? (i := 1275) (by decide +kernel)⟩
theorem lw_p105 : lw_okq (⟨"RainCoverModel", "weatherOf", "(I)I"⟩, 29) := ⟨⟨by decide +kernel, by decide +kernel⟩, List.mem_of_getElem? (i := 855) (by decide +kernel), List.mem_of_getElem? (i := 1284) (by decide +kernel), List.mem_of_getElem? (i := 1285) (by decide +kernel)⟩
def lw_privs_7 : List (MethodName × Nat) := [(⟨"RainCoverModel", "pursesOn", "(I)I"⟩, 29), (⟨"RainCoverModel", "owedOn", "(I)I"⟩, 29), (⟨"RainCoverModel", "skyFrom", "(III)V"⟩, 29), (⟨"RainCoverModel", "safeFrom", "(II)I"⟩, 29), (⟨"RainCoverModel", "byOdds", "(IIZI)J"⟩, 29), (⟨"RainCoverModel", "netOf", "(I)I"⟩, 29), (⟨"RainCoverModel", "netOfSome", "(I)I"⟩, 29), (⟨"RainCoverModel", "allSkies", "()V"⟩, 29), (⟨"RainCoverModel", "worstAt", "(I)I"⟩, 29), (⟨"RainCoverModel", "weatherOf", "(I)I"⟩, 29)]
theorem lw_r7 : ∀ q ∈ lw_privs_7, lw_okq q := List.forall_mem_cons.mpr ⟨lw_p96, List.forall_mem_cons.mpr ⟨lw_p97, List.forall_mem_cons.mpr ⟨lw_p98, List.forall_mem_cons.mpr ⟨lw_p99, List.forall_mem_cons.mpr ⟨lw_p100, List.forall_mem_cons.mpr ⟨lw_p101, List.forall_mem_cons.mpr ⟨lw_p102, List.forall_mem_cons.mpr ⟨lw_p103, List.forall_mem_cons.mpr ⟨lw_p104, List.forall_mem_cons.mpr ⟨lw_p105, fun _ h => absurd h List.not_mem_nil⟩⟩⟩⟩⟩⟩⟩⟩⟩⟩
def lw_privs : List (MethodName × Nat) := lw_privs_1 ++ (lw_privs_2 ++ (lw_privs_3 ++ (lw_privs_4 ++ (lw_privs_5 ++ (lw_privs_6 ++ (lw_privs_7))))))
def lw_tbl : List Cond := k2_sels lw_privs ++ tables_1
theorem lw_privs_ok : ∀ q ∈ lw_privs, lw_okq q := by
  show ∀ q ∈ lw_privs_1 ++ (lw_privs_2 ++ (lw_privs_3 ++ (lw_privs_4 ++ (lw_privs_5 ++ (lw_privs_6 ++ (lw_privs_7)))))), lw_okq q
  exact List.forall_mem_append.mpr ⟨lw_r1, List.forall_mem_append.mpr ⟨lw_r2, List.forall_mem_append.mpr ⟨lw_r3, List.forall_mem_append.mpr ⟨lw_r4, List.forall_mem_append.mpr ⟨lw_r5, List.forall_mem_append.mpr ⟨lw_r6, lw_r7⟩⟩⟩⟩⟩⟩
end
section
/-! ===== BEGIN words of one list among another's, by their places ===== -/
theorem goodIn_r {big : List Cond} (ws : List Cond) (ps : List Nat) (hp : ws = ps.filterMap (fun i => big[i]?)) (h : ws.all goodWord = true) : GoodIn big ws := by
  intro w hw
  have h1 := List.all_eq_true.mp h w hw
  rw [hp] at hw
  obtain ⟨i, -, hi⟩ := List.mem_filterMap.mp hw
  have hm : w ∈ big := by first | exact List.mem_of_getElem? hi | exact List.getElem?_mem hi
  exact ⟨hm, good_of_word h1⟩
theorem goodIn_app {big a b : List Cond} (ha : GoodIn big a) (hb : GoodIn big b) : GoodIn big (a ++ b) := fun w h => (List.mem_append.mp h).elim (ha w) (hb w)
theorem goodIn_ca {big a b : List Cond} {c : Cond} (ha : GoodIn big (c :: a)) (hb : GoodIn big b) : GoodIn big (c :: (a ++ b)) := fun w h => (List.mem_cons.mp h).elim (fun e => ha w (List.mem_cons.mpr (Or.inl e))) (fun h => (List.mem_append.mp h).elim (fun h => ha w (List.mem_cons.mpr (Or.inr h))) (hb w))
theorem goodIn_sub {big ws : List Cond} (hm : ∀ w ∈ ws, w ∈ big) (h : ws.all goodWord = true) : GoodIn big ws := fun w hw => ⟨hm w hw, good_of_word (List.all_eq_true.mp h w hw)⟩
/-! ===== END ===== -/
def RX0 : String := "RainCover$Outlook"
def TX0 : u_T := fun k => match k with
  | 0 => ("RainCover$Outlook", "trial", "LRainCover$Valley;", true)
  | 1 => ("RainCover$Outlook", "nodes", "[I", true)
  | 2 => ("RainCover$Outlook", "fitting", "[I", true)
  | 3 => ("RainCover$Outlook", "fitCount", "I", false)
  | 4 => ("RainCover$Outlook", "tally", "[I", true)
  | 5 => ("RainCover$Outlook", "best", "I", false)
  | _ => ("RainCover$Outlook", "bestMeasure", "I", false)
def tyX0 : Nat → FieldType := fun k => match k with
  | 0 => .object "RainCover$Valley"
  | 1 => .array .int
  | 2 => .array .int
  | 3 => .int
  | 4 => .array .int
  | 5 => .int
  | _ => .int
abbrev wsX00 : List Cond := u_ws RX0 TX0 7
theorem nmX0 : ∀ a, a < 7 → ∀ b, b < 7 → a ≠ b → (TX0 a).2.1 ≠ (TX0 b).2.1 := by decide +kernel
theorem tyX0_ok : ∀ k, k < 7 → parseFieldDescriptor (TX0 k).2.2.1 = some (tyX0 k) := by decide +kernel
abbrev cX0_init : ByteArray := prog_2_method_1_code
def yX0_init : MethodName := ⟨RX0, "<init>", "()V"⟩
abbrev cX0_beginWith : ByteArray := prog_2_method_2_code
def yX0_beginWith : MethodName := ⟨RX0, "beginWith", "(LRainCover$Valley;)V"⟩
abbrev cX0_step : ByteArray := prog_2_method_3_code
def yX0_step : MethodName := ⟨RX0, "step", "(II)V"⟩
abbrev cX0_childOf : ByteArray := prog_2_method_4_code
def yX0_childOf : MethodName := ⟨RX0, "childOf", "(II)I"⟩
abbrev cX0_grow : ByteArray := prog_2_method_5_code
def yX0_grow : MethodName := ⟨RX0, "grow", "(LRainCover$Valley;I)V"⟩
abbrev cX0_purseBehind : ByteArray := prog_2_method_6_code
def yX0_purseBehind : MethodName := ⟨RX0, "purseBehind", "(III)I"⟩
abbrev cX0_runsOf : ByteArray := prog_2_method_7_code
def yX0_runsOf : MethodName := ⟨RX0, "runsOf", "(I)I"⟩
abbrev cX0_firstLeast : ByteArray := prog_2_method_8_code
def yX0_firstLeast : MethodName := ⟨RX0, "firstLeast", "(II)I"⟩
abbrev cX0_greatest : ByteArray := prog_2_method_9_code
def yX0_greatest : MethodName := ⟨RX0, "greatest", "(II)I"⟩
abbrev cX0_weighPurses : ByteArray := prog_2_method_10_code
def yX0_weighPurses : MethodName := ⟨RX0, "weighPurses", "(II)J"⟩
abbrev cX0_weighLuck : ByteArray := prog_2_method_11_code
def yX0_weighLuck : MethodName := ⟨RX0, "weighLuck", "(II)J"⟩
abbrev cX0_weightOf : ByteArray := prog_2_method_12_code
def yX0_weightOf : MethodName := ⟨RX0, "weightOf", "(II)J"⟩
abbrev cX0_safeBits : ByteArray := prog_2_method_13_code
def yX0_safeBits : MethodName := ⟨RX0, "safeBits", "(II)I"⟩
abbrev cX0_walkDown : ByteArray := prog_2_method_14_code
def yX0_walkDown : MethodName := ⟨RX0, "walkDown", "(II)V"⟩
abbrev cX0_belowFloor : ByteArray := prog_2_method_15_code
def yX0_belowFloor : MethodName := ⟨RX0, "belowFloor", "(I)I"⟩
abbrev cX0_searchMore : ByteArray := prog_2_method_16_code
def yX0_searchMore : MethodName := ⟨RX0, "searchMore", "(LRainCover$Valley;I)V"⟩
abbrev cX0_searchFewer : ByteArray := prog_2_method_17_code
def yX0_searchFewer : MethodName := ⟨RX0, "searchFewer", "(LRainCover$Valley;)V"⟩
abbrev cX0_begin : ByteArray := prog_2_method_18_code
def yX0_begin : MethodName := ⟨RX0, "begin", "(I)V"⟩
abbrev cX0_offerMore : ByteArray := prog_2_method_19_code
def yX0_offerMore : MethodName := ⟨RX0, "offerMore", "(I)V"⟩
abbrev cX0_found : ByteArray := prog_2_method_20_code
def yX0_found : MethodName := ⟨RX0, "found", "(I)I"⟩
abbrev cX0_findFitting : ByteArray := prog_2_method_21_code
def yX0_findFitting : MethodName := ⟨RX0, "findFitting", "(LRainCover$Valley;LRainCover$Sightings;)V"⟩
abbrev cX0_isAsSeen : ByteArray := prog_2_method_22_code
def yX0_isAsSeen : MethodName := ⟨RX0, "isAsSeen", "(ILRainCover$Sightings;)Z"⟩
abbrev cX0_purseWithin : ByteArray := prog_2_method_23_code
def yX0_purseWithin : MethodName := ⟨RX0, "purseWithin", "(III)I"⟩
abbrev cX0_fittingIn : ByteArray := prog_2_method_24_code
def yX0_fittingIn : MethodName := ⟨RX0, "fittingIn", "(I)I"⟩
abbrev cX0_searchLook : ByteArray := prog_2_method_25_code
def yX0_searchLook : MethodName := ⟨RX0, "searchLook", "()V"⟩
abbrev cX0_mostLeft : ByteArray := prog_2_method_26_code
def yX0_mostLeft : MethodName := ⟨RX0, "mostLeft", "(II)I"⟩
def RX1 : String := "RainCover$Reader"
def TX1 : u_T := fun k => match k with
  | 0 => ("RainCover$Reader", "bytes", "[I", true)
  | 1 => ("RainCover$Reader", "length", "I", false)
  | 2 => ("RainCover$Reader", "next", "I", false)
  | 3 => ("RainCover$Reader", "place", "I", false)
  | 4 => ("RainCover$Reader", "token", "I", false)
  | 5 => ("RainCover$Reader", "number", "I", false)
  | 6 => ("RainCover$Reader", "wrong", "I", false)
  | 7 => ("RainCover$Reader", "draft", "LRainCover$Valley;", true)
  | 8 => ("RainCover$Reader", "oddsTold", "Z", false)
  | 9 => ("RainCover$Reader", "floorTold", "Z", false)
  | _ => ("RainCover$Reader", "skyTold", "Z", false)
def tyX1 : Nat → FieldType := fun k => match k with
  | 0 => .array .int
  | 1 => .int
  | 2 => .int
  | 3 => .int
  | 4 => .int
  | 5 => .int
  | 6 => .int
  | 7 => .object "RainCover$Valley"
  | 8 => .boolean
  | 9 => .boolean
  | _ => .boolean
abbrev wsX10 : List Cond := u_ws RX1 TX1 11
theorem nmX1 : ∀ a, a < 11 → ∀ b, b < 11 → a ≠ b → (TX1 a).2.1 ≠ (TX1 b).2.1 := by decide +kernel
theorem tyX1_ok : ∀ k, k < 11 → parseFieldDescriptor (TX1 k).2.2.1 = some (tyX1 k) := by decide +kernel
abbrev cX1_init : ByteArray := prog_3_method_1_code
def yX1_init : MethodName := ⟨RX1, "<init>", "()V"⟩
abbrev cX1_append : ByteArray := prog_3_method_2_code
def yX1_append : MethodName := ⟨RX1, "append", "(I)I"⟩
abbrev cX1_takeAll : ByteArray := prog_3_method_3_code
def yX1_takeAll : MethodName := ⟨RX1, "takeAll", "()I"⟩
abbrev cX1_begin : ByteArray := prog_3_method_4_code
def yX1_begin : MethodName := ⟨RX1, "begin", "()V"⟩
abbrev cX1_refuseIf : ByteArray := prog_3_method_5_code
def yX1_refuseIf : MethodName := ⟨RX1, "refuseIf", "(ZI)V"⟩
abbrev cX1_takeLine : ByteArray := prog_3_method_6_code
def yX1_takeLine : MethodName := ⟨RX1, "takeLine", "()V"⟩
abbrev cX1_takeOne : ByteArray := prog_3_method_7_code
def yX1_takeOne : MethodName := ⟨RX1, "takeOne", "(I)V"⟩
abbrev cX1_takeCover : ByteArray := prog_3_method_8_code
def yX1_takeCover : MethodName := ⟨RX1, "takeCover", "()V"⟩
abbrev cX1_takeOdds : ByteArray := prog_3_method_9_code
def yX1_takeOdds : MethodName := ⟨RX1, "takeOdds", "()V"⟩
abbrev cX1_takeFloor : ByteArray := prog_3_method_10_code
def yX1_takeFloor : MethodName := ⟨RX1, "takeFloor", "()V"⟩
abbrev cX1_takeSky : ByteArray := prog_3_method_11_code
def yX1_takeSky : MethodName := ⟨RX1, "takeSky", "()V"⟩
abbrev cX1_takeNumber : ByteArray := prog_3_method_12_code
def yX1_takeNumber : MethodName := ⟨RX1, "takeNumber", "(II)I"⟩
abbrev cX1_takeSemicolon : ByteArray := prog_3_method_13_code
def yX1_takeSemicolon : MethodName := ⟨RX1, "takeSemicolon", "()V"⟩
abbrev cX1_weatherHere : ByteArray := prog_3_method_14_code
def yX1_weatherHere : MethodName := ⟨RX1, "weatherHere", "()I"⟩
abbrev cX1_expect : ByteArray := prog_3_method_15_code
def yX1_expect : MethodName := ⟨RX1, "expect", "(I)V"⟩
abbrev cX1_namesStranger : ByteArray := prog_3_method_16_code
def yX1_namesStranger : MethodName := ⟨RX1, "namesStranger", "()Z"⟩
abbrev cX1_advance : ByteArray := prog_3_method_17_code
def yX1_advance : MethodName := ⟨RX1, "advance", "()V"⟩
abbrev cX1_readName : ByteArray := prog_3_method_18_code
def yX1_readName : MethodName := ⟨RX1, "readName", "()V"⟩
abbrev cX1_readNumber : ByteArray := prog_3_method_19_code
def yX1_readNumber : MethodName := ⟨RX1, "readNumber", "()V"⟩
abbrev cX1_isLetter : ByteArray := prog_3_method_20_code
def yX1_isLetter : MethodName := ⟨RX1, "isLetter", "(I)Z"⟩
abbrev cX1_isFigure : ByteArray := prog_3_method_21_code
def yX1_isFigure : MethodName := ⟨RX1, "isFigure", "(I)Z"⟩
abbrev cX1_wordHere : ByteArray := prog_3_method_22_code
def yX1_wordHere : MethodName := ⟨RX1, "wordHere", "()I"⟩
abbrev cX1_spells : ByteArray := prog_3_method_23_code
def yX1_spells : MethodName := ⟨RX1, "spells", "(Ljava/lang/String;)Z"⟩
abbrev cX1_wordOf : ByteArray := prog_3_method_24_code
def yX1_wordOf : MethodName := ⟨RX1, "wordOf", "(I)Ljava/lang/String;"⟩
def RX2 : String := "RainCover$Sheet"
def TX2 : u_T := fun k => match k with
  | 0 => ("RainCover$Sheet", "lane", "I", false)
  | 1 => ("RainCover$Sheet", "size", "I", false)
  | _ => ("RainCover$Sheet", "cells", "[I", true)
def tyX2 : Nat → FieldType := fun k => match k with
  | 0 => .int
  | 1 => .int
  | _ => .array .int
abbrev wsX20 : List Cond := u_ws RX2 TX2 3
theorem nmX2 : ∀ a, a < 3 → ∀ b, b < 3 → a ≠ b → (TX2 a).2.1 ≠ (TX2 b).2.1 := by decide +kernel
theorem tyX2_ok : ∀ k, k < 3 → parseFieldDescriptor (TX2 k).2.2.1 = some (tyX2 k) := by decide +kernel
abbrev cX2_init : ByteArray := prog_4_method_1_code
def yX2_init : MethodName := ⟨RX2, "<init>", "()V"⟩
abbrev cX2_renew : ByteArray := prog_4_method_2_code
def yX2_renew : MethodName := ⟨RX2, "renew", "(II)V"⟩
abbrev cX2_faultAt : ByteArray := prog_4_method_3_code
def yX2_faultAt : MethodName := ⟨RX2, "faultAt", "(II)I"⟩
abbrev cX2_put : ByteArray := prog_4_method_4_code
def yX2_put : MethodName := ⟨RX2, "put", "(II)V"⟩
def RX3 : String := "RainCover$Sightings"
def TX3 : u_T := fun k => match k with
  | 0 => ("RainCover$Sightings", "size", "I", false)
  | 1 => ("RainCover$Sightings", "ones", "[I", true)
  | 2 => ("RainCover$Sightings", "weeks", "[I", true)
  | _ => ("RainCover$Sightings", "purses", "[I", true)
def tyX3 : Nat → FieldType := fun k => match k with
  | 0 => .int
  | 1 => .array .int
  | 2 => .array .int
  | _ => .array .int
abbrev wsX30 : List Cond := u_ws RX3 TX3 4
theorem nmX3 : ∀ a, a < 4 → ∀ b, b < 4 → a ≠ b → (TX3 a).2.1 ≠ (TX3 b).2.1 := by decide +kernel
theorem tyX3_ok : ∀ k, k < 4 → parseFieldDescriptor (TX3 k).2.2.1 = some (tyX3 k) := by decide +kernel
abbrev cX3_init : ByteArray := prog_5_method_1_code
def yX3_init : MethodName := ⟨RX3, "<init>", "()V"⟩
abbrev cX3_add : ByteArray := prog_5_method_2_code
def yX3_add : MethodName := ⟨RX3, "add", "(III)V"⟩
def RX4 : String := "RainCover$Valley"
def TX4 : u_T := fun k => match k with
  | 0 => ("RainCover$Valley", "people", "I", false)
  | 1 => ("RainCover$Valley", "ones", "[[I", true)
  | 2 => ("RainCover$Valley", "purses", "[I", true)
  | 3 => ("RainCover$Valley", "covers", "I", false)
  | 4 => ("RainCover$Valley", "terms", "[[I", true)
  | 5 => ("RainCover$Valley", "tenths", "[I", true)
  | 6 => ("RainCover$Valley", "floorAt", "I", false)
  | 7 => ("RainCover$Valley", "planned", "I", false)
  | 8 => ("RainCover$Valley", "planning", "[I", true)
  | 9 => ("RainCover$Valley", "weeks", "I", false)
  | _ => ("RainCover$Valley", "debts", "[[I", true)
def tyX4 : Nat → FieldType := fun k => match k with
  | 0 => .int
  | 1 => .array (.array .int)
  | 2 => .array .int
  | 3 => .int
  | 4 => .array (.array .int)
  | 5 => .array .int
  | 6 => .int
  | 7 => .int
  | 8 => .array .int
  | 9 => .int
  | _ => .array (.array .int)
abbrev wsX40 : List Cond := u_ws RX4 TX4 11
theorem nmX4 : ∀ a, a < 11 → ∀ b, b < 11 → a ≠ b → (TX4 a).2.1 ≠ (TX4 b).2.1 := by decide +kernel
theorem tyX4_ok : ∀ k, k < 11 → parseFieldDescriptor (TX4 k).2.2.1 = some (tyX4 k) := by decide +kernel
abbrev cX4_init : ByteArray := prog_6_method_1_code
def yX4_init : MethodName := ⟨RX4, "<init>", "()V"⟩
abbrev cX4_clear : ByteArray := prog_6_method_2_code
def yX4_clear : MethodName := ⟨RX4, "clear", "()V"⟩
abbrev cX4_clearDebts : ByteArray := prog_6_method_3_code
def yX4_clearDebts : MethodName := ⟨RX4, "clearDebts", "()V"⟩
abbrev cX4_copyFrom : ByteArray := prog_6_method_4_code
def yX4_copyFrom : MethodName := ⟨RX4, "copyFrom", "(LRainCover$Valley;)V"⟩
abbrev cX4_copyRows : ByteArray := prog_6_method_5_code
def yX4_copyRows : MethodName := ⟨RX4, "copyRows", "([[I[[I)V"⟩
abbrev cX4_addOne : ByteArray := prog_6_method_6_code
def yX4_addOne : MethodName := ⟨RX4, "addOne", "(III)V"⟩
abbrev cX4_addCover : ByteArray := prog_6_method_7_code
def yX4_addCover : MethodName := ⟨RX4, "addCover", "(IIIII)V"⟩
abbrev cX4_removeCover : ByteArray := prog_6_method_8_code
def yX4_removeCover : MethodName := ⟨RX4, "removeCover", "(I)V"⟩
abbrev cX4_addPlanned : ByteArray := prog_6_method_9_code
def yX4_addPlanned : MethodName := ⟨RX4, "addPlanned", "(I)V"⟩
abbrev cX4_gainOf : ByteArray := prog_6_method_10_code
def yX4_gainOf : MethodName := ⟨RX4, "gainOf", "(II)I"⟩
abbrev cX4_coversWith : ByteArray := prog_6_method_11_code
def yX4_coversWith : MethodName := ⟨RX4, "coversWith", "(II)I"⟩
abbrev cX4_belowFloor : ByteArray := prog_6_method_12_code
def yX4_belowFloor : MethodName := ⟨RX4, "belowFloor", "()I"⟩
abbrev cX4_allPurses : ByteArray := prog_6_method_13_code
def yX4_allPurses : MethodName := ⟨RX4, "allPurses", "()I"⟩
abbrev cX4_allDebts : ByteArray := prog_6_method_14_code
def yX4_allDebts : MethodName := ⟨RX4, "allDebts", "()I"⟩
abbrev cX4_balanceOf : ByteArray := prog_6_method_15_code
def yX4_balanceOf : MethodName := ⟨RX4, "balanceOf", "(I)I"⟩
abbrev cX4_dueIn : ByteArray := prog_6_method_16_code
def yX4_dueIn : MethodName := ⟨RX4, "dueIn", "(I)I"⟩
abbrev cX4_weatherAt : ByteArray := prog_6_method_17_code
def yX4_weatherAt : MethodName := ⟨RX4, "weatherAt", "(I)I"⟩
abbrev cX4_goWeek : ByteArray := prog_6_method_18_code
def yX4_goWeek : MethodName := ⟨RX4, "goWeek", "(I)I"⟩
abbrev cX4_live : ByteArray := prog_6_method_19_code
def yX4_live : MethodName := ⟨RX4, "live", "(I)I"⟩
abbrev cX4_hand : ByteArray := prog_6_method_20_code
def yX4_hand : MethodName := ⟨RX4, "hand", "(III)I"⟩
def RX5 : String := "RainCover"
def TX5 : u_T := fun k => match k with
  | 0 => ("RainCover", "now", "LRainCover$Valley;", true)
  | 1 => ("RainCover", "trial", "LRainCover$Valley;", true)
  | 2 => ("RainCover", "images", "[LRainCover$Valley;", true)
  | 3 => ("RainCover", "kept", "[Z", true)
  | 4 => ("RainCover", "reader", "LRainCover$Reader;", true)
  | 5 => ("RainCover", "outlook", "LRainCover$Outlook;", true)
  | 6 => ("RainCover", "sightings", "LRainCover$Sightings;", true)
  | 7 => ("RainCover", "sheets", "[LRainCover$Sheet;", true)
  | 8 => ("RainCover", "groups", "[I", true)
  | _ => ("RainCover", "tornFault", "I", false)
def tyX5 : Nat → FieldType := fun k => match k with
  | 0 => .object "RainCover$Valley"
  | 1 => .object "RainCover$Valley"
  | 2 => .array (.object "RainCover$Valley")
  | 3 => .array .boolean
  | 4 => .object "RainCover$Reader"
  | 5 => .object "RainCover$Outlook"
  | 6 => .object "RainCover$Sightings"
  | 7 => .array (.object "RainCover$Sheet")
  | 8 => .array .int
  | _ => .int
abbrev wsX50 : List Cond := u_ws RX5 TX5 10
theorem nmX5 : ∀ a, a < 10 → ∀ b, b < 10 → a ≠ b → (TX5 a).2.1 ≠ (TX5 b).2.1 := by decide +kernel
theorem tyX5_ok : ∀ k, k < 10 → parseFieldDescriptor (TX5 k).2.2.1 = some (tyX5 k) := by decide +kernel
abbrev cX5_init : ByteArray := prog_1_method_1_code
def yX5_init : MethodName := ⟨RX5, "<init>", "()V"⟩
abbrev cX5_feed : ByteArray := prog_1_method_2_code
def yX5_feed : MethodName := ⟨RX5, "feed", "(I)I"⟩
abbrev cX5_end : ByteArray := prog_1_method_3_code
def yX5_end : MethodName := ⟨RX5, "end", "(I)I"⟩
abbrev cX5_text : ByteArray := prog_1_method_4_code
def yX5_text : MethodName := ⟨RX5, "text", "()I"⟩
abbrev cX5_fault : ByteArray := prog_1_method_5_code
def yX5_fault : MethodName := ⟨RX5, "fault", "()I"⟩
abbrev cX5_rule : ByteArray := prog_1_method_6_code
def yX5_rule : MethodName := ⟨RX5, "rule", "(I)I"⟩
abbrev cX5_one : ByteArray := prog_1_method_7_code
def yX5_one : MethodName := ⟨RX5, "one", "(II)I"⟩
abbrev cX5_gain : ByteArray := prog_1_method_8_code
def yX5_gain : MethodName := ⟨RX5, "gain", "(II)I"⟩
abbrev cX5_cover : ByteArray := prog_1_method_9_code
def yX5_cover : MethodName := ⟨RX5, "cover", "(II)I"⟩
abbrev cX5_odds : ByteArray := prog_1_method_10_code
def yX5_odds : MethodName := ⟨RX5, "odds", "(I)I"⟩
abbrev cX5_sky : ByteArray := prog_1_method_11_code
def yX5_sky : MethodName := ⟨RX5, "sky", "(I)I"⟩
abbrev cX5_owed : ByteArray := prog_1_method_12_code
def yX5_owed : MethodName := ⟨RX5, "owed", "(II)I"⟩
abbrev cX5_alter : ByteArray := prog_1_method_13_code
def yX5_alter : MethodName := ⟨RX5, "alter", "(III)I"⟩
abbrev cX5_sign : ByteArray := prog_1_method_14_code
def yX5_sign : MethodName := ⟨RX5, "sign", "(III)I"⟩
abbrev cX5_insure : ByteArray := prog_1_method_15_code
def yX5_insure : MethodName := ⟨RX5, "insure", "(IIIII)I"⟩
abbrev cX5_drop : ByteArray := prog_1_method_16_code
def yX5_drop : MethodName := ⟨RX5, "drop", "(I)I"⟩
abbrev cX5_shift : ByteArray := prog_1_method_17_code
def yX5_shift : MethodName := ⟨RX5, "shift", "(II)I"⟩
abbrev cX5_floor : ByteArray := prog_1_method_18_code
def yX5_floor : MethodName := ⟨RX5, "floor", "(I)I"⟩
abbrev cX5_plan : ByteArray := prog_1_method_19_code
def yX5_plan : MethodName := ⟨RX5, "plan", "(I)I"⟩
abbrev cX5_cut : ByteArray := prog_1_method_20_code
def yX5_cut : MethodName := ⟨RX5, "cut", "(I)I"⟩
abbrev cX5_week : ByteArray := prog_1_method_21_code
def yX5_week : MethodName := ⟨RX5, "week", "(I)I"⟩
abbrev cX5_runs : ByteArray := prog_1_method_22_code
def yX5_runs : MethodName := ⟨RX5, "runs", "(I)I"⟩
abbrev cX5_ahead : ByteArray := prog_1_method_23_code
def yX5_ahead : MethodName := ⟨RX5, "ahead", "(I)I"⟩
abbrev cX5_least : ByteArray := prog_1_method_24_code
def yX5_least : MethodName := ⟨RX5, "least", "(III)I"⟩
abbrev cX5_safe : ByteArray := prog_1_method_25_code
def yX5_safe : MethodName := ⟨RX5, "safe", "(I)I"⟩
abbrev cX5_fair : ByteArray := prog_1_method_26_code
def yX5_fair : MethodName := ⟨RX5, "fair", "(I)I"⟩
abbrev cX5_help : ByteArray := prog_1_method_27_code
def yX5_help : MethodName := ⟨RX5, "help", "(II)I"⟩
abbrev cX5_spare : ByteArray := prog_1_method_28_code
def yX5_spare : MethodName := ⟨RX5, "spare", "(I)I"⟩
abbrev cX5_dear : ByteArray := prog_1_method_29_code
def yX5_dear : MethodName := ⟨RX5, "dear", "(I)I"⟩
abbrev cX5_mean : ByteArray := prog_1_method_30_code
def yX5_mean : MethodName := ⟨RX5, "mean", "(III)J"⟩
abbrev cX5_luck : ByteArray := prog_1_method_31_code
def yX5_luck : MethodName := ⟨RX5, "luck", "(III)J"⟩
abbrev cX5_forecast : ByteArray := prog_1_method_32_code
def yX5_forecast : MethodName := ⟨RX5, "forecast", "(II)J"⟩
abbrev cX5_pays : ByteArray := prog_1_method_33_code
def yX5_pays : MethodName := ⟨RX5, "pays", "()I"⟩
abbrev cX5_forgive : ByteArray := prog_1_method_34_code
def yX5_forgive : MethodName := ⟨RX5, "forgive", "()I"⟩
abbrev cX5_see : ByteArray := prog_1_method_35_code
def yX5_see : MethodName := ⟨RX5, "see", "(III)I"⟩
abbrev cX5_forget : ByteArray := prog_1_method_36_code
def yX5_forget : MethodName := ⟨RX5, "forget", "(I)I"⟩
abbrev cX5_fits : ByteArray := prog_1_method_37_code
def yX5_fits : MethodName := ⟨RX5, "fits", "(I)I"⟩
abbrev cX5_look : ByteArray := prog_1_method_38_code
def yX5_look : MethodName := ⟨RX5, "look", "(I)I"⟩
abbrev cX5_drift : ByteArray := prog_1_method_39_code
def yX5_drift : MethodName := ⟨RX5, "drift", "(III)I"⟩
abbrev cX5_keep : ByteArray := prog_1_method_40_code
def yX5_keep : MethodName := ⟨RX5, "keep", "(I)I"⟩
abbrev cX5_back : ByteArray := prog_1_method_41_code
def yX5_back : MethodName := ⟨RX5, "back", "(I)I"⟩
abbrev cX5_sheet : ByteArray := prog_1_method_42_code
def yX5_sheet : MethodName := ⟨RX5, "sheet", "(III)I"⟩
abbrev cX5_lay : ByteArray := prog_1_method_43_code
def yX5_lay : MethodName := ⟨RX5, "lay", "(III)I"⟩
abbrev cX5_read : ByteArray := prog_1_method_44_code
def yX5_read : MethodName := ⟨RX5, "read", "(IIII)I"⟩
abbrev cX5_torn : ByteArray := prog_1_method_45_code
def yX5_torn : MethodName := ⟨RX5, "torn", "()I"⟩
abbrev cX5_count : ByteArray := prog_1_method_46_code
def yX5_count : MethodName := ⟨RX5, "count", "(I)I"⟩
abbrev cX5_within : ByteArray := prog_1_method_47_code
def yX5_within : MethodName := ⟨RX5, "within", "(III)Z"⟩
abbrev cX5_isWeather : ByteArray := prog_1_method_48_code
def yX5_isWeather : MethodName := ⟨RX5, "isWeather", "(I)Z"⟩
abbrev cX5_isAhead : ByteArray := prog_1_method_49_code
def yX5_isAhead : MethodName := ⟨RX5, "isAhead", "(I)Z"⟩
abbrev cX5_isSheet : ByteArray := prog_1_method_50_code
def yX5_isSheet : MethodName := ⟨RX5, "isSheet", "(I)Z"⟩
abbrev cX5_isLane : ByteArray := prog_1_method_51_code
def yX5_isLane : MethodName := ⟨RX5, "isLane", "(I)Z"⟩
abbrev cX5_isOne : ByteArray := prog_1_method_52_code
def yX5_isOne : MethodName := ⟨RX5, "isOne", "(I)Z"⟩
abbrev cX5_isCover : ByteArray := prog_1_method_53_code
def yX5_isCover : MethodName := ⟨RX5, "isCover", "(I)Z"⟩
abbrev cX5_fitsOne : ByteArray := prog_1_method_54_code
def yX5_fitsOne : MethodName := ⟨RX5, "fitsOne", "(II)Z"⟩
abbrev cX5_fitsCover : ByteArray := prog_1_method_55_code
def yX5_fitsCover : MethodName := ⟨RX5, "fitsCover", "(II)Z"⟩
abbrev cX5_imagesKept : ByteArray := prog_1_method_56_code
def yX5_imagesKept : MethodName := ⟨RX5, "imagesKept", "()I"⟩
abbrev cX5_followPlan : ByteArray := prog_1_method_57_code
def yX5_followPlan : MethodName := ⟨RX5, "followPlan", "(Z)I"⟩
abbrev cX5_power : ByteArray := prog_1_method_58_code
def yX5_power : MethodName := ⟨RX5, "power", "(II)J"⟩
abbrev cX5_part : ByteArray := prog_1_method_59_code
def yX5_part : MethodName := ⟨RX5, "part", "(JJI)J"⟩
abbrev cX5_commonDivisor : ByteArray := prog_1_method_60_code
def yX5_commonDivisor : MethodName := ⟨RX5, "commonDivisor", "(JJ)J"⟩
def RX6 : String := "RainCoverModel"
def TX6 : u_T := fun k => match k with
  | 0 => ("RainCoverModel", "state", "[I", true)
  | 1 => ("RainCoverModel", "brings", "[I", true)
  | 2 => ("RainCoverModel", "oneMany", "I", false)
  | 3 => ("RainCoverModel", "readPage", "[I", true)
  | 4 => ("RainCoverModel", "readOnes", "I", false)
  | 5 => ("RainCoverModel", "toldOnce", "I", false)
  | 6 => ("RainCoverModel", "highOne", "I", false)
  | 7 => ("RainCoverModel", "tape", "[I", true)
  | 8 => ("RainCoverModel", "taped", "I", false)
  | 9 => ("RainCoverModel", "fault", "I", false)
  | 10 => ("RainCoverModel", "broken", "I", false)
  | 11 => ("RainCoverModel", "brokenAt", "I", false)
  | 12 => ("RainCoverModel", "spot", "I", false)
  | 13 => ("RainCoverModel", "here", "I", false)
  | 14 => ("RainCoverModel", "token", "I", false)
  | 15 => ("RainCoverModel", "value", "I", false)
  | 16 => ("RainCoverModel", "cuts", "[I", true)
  | 17 => ("RainCoverModel", "letters", "[I", true)
  | 18 => ("RainCoverModel", "firstFail", "I", false)
  | 19 => ("RainCoverModel", "groups", "[I", true)
  | 20 => ("RainCoverModel", "seen", "[I", true)
  | 21 => ("RainCoverModel", "seenMany", "I", false)
  | 22 => ("RainCoverModel", "pursesBy", "[I", true)
  | 23 => ("RainCoverModel", "isFit", "[Z", true)
  | 24 => ("RainCoverModel", "isKept", "[Z", true)
  | 25 => ("RainCoverModel", "lanes", "[I", true)
  | 26 => ("RainCoverModel", "lengths", "[I", true)
  | 27 => ("RainCoverModel", "cells", "[I", true)
  | _ => ("RainCoverModel", "torn", "I", false)
def tyX6 : Nat → FieldType := fun k => match k with
  | 0 => .array .int
  | 1 => .array .int
  | 2 => .int
  | 3 => .array .int
  | 4 => .int
  | 5 => .int
  | 6 => .int
  | 7 => .array .int
  | 8 => .int
  | 9 => .int
  | 10 => .int
  | 11 => .int
  | 12 => .int
  | 13 => .int
  | 14 => .int
  | 15 => .int
  | 16 => .array .int
  | 17 => .array .int
  | 18 => .int
  | 19 => .array .int
  | 20 => .array .int
  | 21 => .int
  | 22 => .array .int
  | 23 => .array .boolean
  | 24 => .array .boolean
  | 25 => .array .int
  | 26 => .array .int
  | 27 => .array .int
  | _ => .int
abbrev wsX60 : List Cond := u_ws RX6 TX6 29
theorem nmX6 : ∀ a, a < 29 → ∀ b, b < 29 → a ≠ b → (TX6 a).2.1 ≠ (TX6 b).2.1 := by decide +kernel
theorem tyX6_ok : ∀ k, k < 29 → parseFieldDescriptor (TX6 k).2.2.1 = some (tyX6 k) := by decide +kernel
abbrev cX6_init : ByteArray := prog_8_method_1_code
def yX6_init : MethodName := ⟨RX6, "<init>", "()V"⟩
abbrev cX6_in : ByteArray := prog_8_method_3_code
def yX6_in : MethodName := ⟨RX6, "in", "(JJJ)Z"⟩
abbrev cX6_feed : ByteArray := prog_8_method_4_code
def yX6_feed : MethodName := ⟨RX6, "feed", "(I)I"⟩
abbrev cX6_end : ByteArray := prog_8_method_5_code
def yX6_end : MethodName := ⟨RX6, "end", "(I)I"⟩
abbrev cX6_byteAt : ByteArray := prog_8_method_6_code
def yX6_byteAt : MethodName := ⟨RX6, "byteAt", "(I)I"⟩
abbrev cX6_fails : ByteArray := prog_8_method_7_code
def yX6_fails : MethodName := ⟨RX6, "fails", "(I)V"⟩
abbrev cX6_nameHere : ByteArray := prog_8_method_8_code
def yX6_nameHere : MethodName := ⟨RX6, "nameHere", "()I"⟩
abbrev cX6_step : ByteArray := prog_8_method_9_code
def yX6_step : MethodName := ⟨RX6, "step", "()V"⟩
abbrev cX6_number : ByteArray := prog_8_method_10_code
def yX6_number : MethodName := ⟨RX6, "number", "(II)I"⟩
abbrev cX6_oneHere : ByteArray := prog_8_method_11_code
def yX6_oneHere : MethodName := ⟨RX6, "oneHere", "()I"⟩
abbrev cX6_weatherHere : ByteArray := prog_8_method_12_code
def yX6_weatherHere : MethodName := ⟨RX6, "weatherHere", "()I"⟩
abbrev cX6_readCover : ByteArray := prog_8_method_13_code
def yX6_readCover : MethodName := ⟨RX6, "readCover", "()V"⟩
abbrev cX6_firstOdds : ByteArray := prog_8_method_14_code
def yX6_firstOdds : MethodName := ⟨RX6, "firstOdds", "(I)I"⟩
abbrev cX6_readOdds : ByteArray := prog_8_method_15_code
def yX6_readOdds : MethodName := ⟨RX6, "readOdds", "()V"⟩
abbrev cX6_readSky : ByteArray := prog_8_method_16_code
def yX6_readSky : MethodName := ⟨RX6, "readSky", "()V"⟩
abbrev cX6_readMore : ByteArray := prog_8_method_17_code
def yX6_readMore : MethodName := ⟨RX6, "readMore", "(I)V"⟩
abbrev cX6_readLine : ByteArray := prog_8_method_18_code
def yX6_readLine : MethodName := ⟨RX6, "readLine", "()V"⟩
abbrev cX6_text : ByteArray := prog_8_method_19_code
def yX6_text : MethodName := ⟨RX6, "text", "()I"⟩
abbrev cX6_fault : ByteArray := prog_8_method_20_code
def yX6_fault : MethodName := ⟨RX6, "fault", "()I"⟩
abbrev cX6_isOne : ByteArray := prog_8_method_21_code
def yX6_isOne : MethodName := ⟨RX6, "isOne", "(I)Z"⟩
abbrev cX6_isCover : ByteArray := prog_8_method_22_code
def yX6_isCover : MethodName := ⟨RX6, "isCover", "(I)Z"⟩
abbrev cX6_isWeather : ByteArray := prog_8_method_23_code
def yX6_isWeather : MethodName := ⟨RX6, "isWeather", "(I)Z"⟩
abbrev cX6_floorNow : ByteArray := prog_8_method_24_code
def yX6_floorNow : MethodName := ⟨RX6, "floorNow", "()I"⟩
abbrev cX6_belowOn : ByteArray := prog_8_method_25_code
def yX6_belowOn : MethodName := ⟨RX6, "belowOn", "(I)I"⟩
abbrev cX6_rule : ByteArray := prog_8_method_26_code
def yX6_rule : MethodName := ⟨RX6, "rule", "(I)I"⟩
abbrev cX6_coversOf : ByteArray := prog_8_method_27_code
def yX6_coversOf : MethodName := ⟨RX6, "coversOf", "(II)I"⟩
abbrev cX6_one : ByteArray := prog_8_method_28_code
def yX6_one : MethodName := ⟨RX6, "one", "(II)I"⟩
abbrev cX6_gainOf : ByteArray := prog_8_method_29_code
def yX6_gainOf : MethodName := ⟨RX6, "gainOf", "(II)I"⟩
abbrev cX6_gain : ByteArray := prog_8_method_30_code
def yX6_gain : MethodName := ⟨RX6, "gain", "(II)I"⟩
abbrev cX6_cover : ByteArray := prog_8_method_31_code
def yX6_cover : MethodName := ⟨RX6, "cover", "(II)I"⟩
abbrev cX6_oddsOf : ByteArray := prog_8_method_32_code
def yX6_oddsOf : MethodName := ⟨RX6, "oddsOf", "(I)I"⟩
abbrev cX6_odds : ByteArray := prog_8_method_33_code
def yX6_odds : MethodName := ⟨RX6, "odds", "(I)I"⟩
abbrev cX6_sky : ByteArray := prog_8_method_34_code
def yX6_sky : MethodName := ⟨RX6, "sky", "(I)I"⟩
abbrev cX6_owed : ByteArray := prog_8_method_35_code
def yX6_owed : MethodName := ⟨RX6, "owed", "(II)I"⟩
abbrev cX6_puts : ByteArray := prog_8_method_36_code
def yX6_puts : MethodName := ⟨RX6, "puts", "(ZIII)I"⟩
abbrev cX6_alter : ByteArray := prog_8_method_37_code
def yX6_alter : MethodName := ⟨RX6, "alter", "(III)I"⟩
abbrev cX6_sign : ByteArray := prog_8_method_38_code
def yX6_sign : MethodName := ⟨RX6, "sign", "(III)I"⟩
abbrev cX6_adds : ByteArray := prog_8_method_39_code
def yX6_adds : MethodName := ⟨RX6, "adds", "(IIIII)V"⟩
abbrev cX6_insure : ByteArray := prog_8_method_40_code
def yX6_insure : MethodName := ⟨RX6, "insure", "(IIIII)I"⟩
abbrev cX6_drops : ByteArray := prog_8_method_41_code
def yX6_drops : MethodName := ⟨RX6, "drops", "(I)V"⟩
abbrev cX6_drop : ByteArray := prog_8_method_42_code
def yX6_drop : MethodName := ⟨RX6, "drop", "(I)I"⟩
abbrev cX6_shift : ByteArray := prog_8_method_43_code
def yX6_shift : MethodName := ⟨RX6, "shift", "(II)I"⟩
abbrev cX6_floor : ByteArray := prog_8_method_44_code
def yX6_floor : MethodName := ⟨RX6, "floor", "(I)I"⟩
abbrev cX6_plan : ByteArray := prog_8_method_45_code
def yX6_plan : MethodName := ⟨RX6, "plan", "(I)I"⟩
abbrev cX6_cut : ByteArray := prog_8_method_46_code
def yX6_cut : MethodName := ⟨RX6, "cut", "(I)I"⟩
abbrev cX6_paysOn : ByteArray := prog_8_method_47_code
def yX6_paysOn : MethodName := ⟨RX6, "paysOn", "(IIII)Z"⟩
abbrev cX6_weekOn : ByteArray := prog_8_method_48_code
def yX6_weekOn : MethodName := ⟨RX6, "weekOn", "(II)I"⟩
abbrev cX6_weeks : ByteArray := prog_8_method_49_code
def yX6_weeks : MethodName := ⟨RX6, "weeks", "(I)I"⟩
abbrev cX6_week : ByteArray := prog_8_method_50_code
def yX6_week : MethodName := ⟨RX6, "week", "(I)I"⟩
abbrev cX6_copies : ByteArray := prog_8_method_51_code
def yX6_copies : MethodName := ⟨RX6, "copies", "(II)V"⟩
abbrev cX6_pursesOn : ByteArray := prog_8_method_52_code
def yX6_pursesOn : MethodName := ⟨RX6, "pursesOn", "(I)I"⟩
abbrev cX6_owedOn : ByteArray := prog_8_method_53_code
def yX6_owedOn : MethodName := ⟨RX6, "owedOn", "(I)I"⟩
abbrev cX6_planGoes : ByteArray := prog_8_method_54_code
def yX6_planGoes : MethodName := ⟨RX6, "planGoes", "()I"⟩
abbrev cX6_runs : ByteArray := prog_8_method_55_code
def yX6_runs : MethodName := ⟨RX6, "runs", "(I)I"⟩
abbrev cX6_ahead : ByteArray := prog_8_method_56_code
def yX6_ahead : MethodName := ⟨RX6, "ahead", "(I)I"⟩
abbrev cX6_powerOf : ByteArray := prog_8_method_57_code
def yX6_powerOf : MethodName := ⟨RX6, "powerOf", "(I)I"⟩
abbrev cX6_skyFrom : ByteArray := prog_8_method_58_code
def yX6_skyFrom : MethodName := ⟨RX6, "skyFrom", "(III)V"⟩
abbrev cX6_least : ByteArray := prog_8_method_59_code
def yX6_least : MethodName := ⟨RX6, "least", "(III)I"⟩
abbrev cX6_safeFrom : ByteArray := prog_8_method_60_code
def yX6_safeFrom : MethodName := ⟨RX6, "safeFrom", "(II)I"⟩
abbrev cX6_safe : ByteArray := prog_8_method_61_code
def yX6_safe : MethodName := ⟨RX6, "safe", "(I)I"⟩
abbrev cX6_fair : ByteArray := prog_8_method_62_code
def yX6_fair : MethodName := ⟨RX6, "fair", "(I)I"⟩
abbrev cX6_bitsOf : ByteArray := prog_8_method_63_code
def yX6_bitsOf : MethodName := ⟨RX6, "bitsOf", "(I)I"⟩
abbrev cX6_help : ByteArray := prog_8_method_64_code
def yX6_help : MethodName := ⟨RX6, "help", "(II)I"⟩
abbrev cX6_spare : ByteArray := prog_8_method_65_code
def yX6_spare : MethodName := ⟨RX6, "spare", "(I)I"⟩
abbrev cX6_dear : ByteArray := prog_8_method_66_code
def yX6_dear : MethodName := ⟨RX6, "dear", "(I)I"⟩
abbrev cX6_lowest : ByteArray := prog_8_method_67_code
def yX6_lowest : MethodName := ⟨RX6, "lowest", "(JJI)J"⟩
abbrev cX6_byOdds : ByteArray := prog_8_method_68_code
def yX6_byOdds : MethodName := ⟨RX6, "byOdds", "(IIZI)J"⟩
abbrev cX6_mean : ByteArray := prog_8_method_69_code
def yX6_mean : MethodName := ⟨RX6, "mean", "(III)J"⟩
abbrev cX6_luck : ByteArray := prog_8_method_70_code
def yX6_luck : MethodName := ⟨RX6, "luck", "(III)J"⟩
abbrev cX6_forecast : ByteArray := prog_8_method_71_code
def yX6_forecast : MethodName := ⟨RX6, "forecast", "(II)J"⟩
abbrev cX6_netOf : ByteArray := prog_8_method_72_code
def yX6_netOf : MethodName := ⟨RX6, "netOf", "(I)I"⟩
abbrev cX6_netOfSome : ByteArray := prog_8_method_73_code
def yX6_netOfSome : MethodName := ⟨RX6, "netOfSome", "(I)I"⟩
abbrev cX6_pays : ByteArray := prog_8_method_74_code
def yX6_pays : MethodName := ⟨RX6, "pays", "()I"⟩
abbrev cX6_forgive : ByteArray := prog_8_method_75_code
def yX6_forgive : MethodName := ⟨RX6, "forgive", "()I"⟩
abbrev cX6_see : ByteArray := prog_8_method_76_code
def yX6_see : MethodName := ⟨RX6, "see", "(III)I"⟩
abbrev cX6_forget : ByteArray := prog_8_method_77_code
def yX6_forget : MethodName := ⟨RX6, "forget", "(I)I"⟩
abbrev cX6_allSkies : ByteArray := prog_8_method_78_code
def yX6_allSkies : MethodName := ⟨RX6, "allSkies", "()V"⟩
abbrev cX6_fits : ByteArray := prog_8_method_79_code
def yX6_fits : MethodName := ⟨RX6, "fits", "(I)I"⟩
abbrev cX6_worstAt : ByteArray := prog_8_method_80_code
def yX6_worstAt : MethodName := ⟨RX6, "worstAt", "(I)I"⟩
abbrev cX6_look : ByteArray := prog_8_method_81_code
def yX6_look : MethodName := ⟨RX6, "look", "(I)I"⟩
abbrev cX6_weatherOf : ByteArray := prog_8_method_82_code
def yX6_weatherOf : MethodName := ⟨RX6, "weatherOf", "(I)I"⟩
abbrev cX6_drift : ByteArray := prog_8_method_83_code
def yX6_drift : MethodName := ⟨RX6, "drift", "(III)I"⟩
abbrev cX6_keep : ByteArray := prog_8_method_84_code
def yX6_keep : MethodName := ⟨RX6, "keep", "(I)I"⟩
abbrev cX6_back : ByteArray := prog_8_method_85_code
def yX6_back : MethodName := ⟨RX6, "back", "(I)I"⟩
abbrev cX6_sheet : ByteArray := prog_8_method_86_code
def yX6_sheet : MethodName := ⟨RX6, "sheet", "(III)I"⟩
abbrev cX6_lay : ByteArray := prog_8_method_87_code
def yX6_lay : MethodName := ⟨RX6, "lay", "(III)I"⟩
abbrev cX6_read : ByteArray := prog_8_method_88_code
def yX6_read : MethodName := ⟨RX6, "read", "(IIII)I"⟩
abbrev cX6_torn : ByteArray := prog_8_method_89_code
def yX6_torn : MethodName := ⟨RX6, "torn", "()I"⟩
abbrev cX6_count : ByteArray := prog_8_method_90_code
def yX6_count : MethodName := ⟨RX6, "count", "(I)I"⟩
def RJ6 : String := "java/lang/Integer"
def TJ6 : u_T := fun k => match k with
  | _ => ("", "", "", false)
def tyJ6 : Nat → FieldType := fun k => match k with
  | _ => .int
abbrev wsJ60 : List Cond := u_ws RJ6 TJ6 0
theorem nmJ6 : ∀ a, a < 0 → ∀ b, b < 0 → a ≠ b → (TJ6 a).2.1 ≠ (TJ6 b).2.1 := by decide +kernel
theorem tyJ6_ok : ∀ k, k < 0 → parseFieldDescriptor (TJ6 k).2.2.1 = some (tyJ6 k) := by decide +kernel
abbrev cJ6_bitCount_0f7a4 : ByteArray := prog_9_method_49_code
def yJ6_bitCount_0f7a4 : MethodName := ⟨RJ6, "bitCount", "(I)I"⟩
def RJ9 : String := "java/lang/Math"
def TJ9 : u_T := fun k => match k with
  | _ => ("", "", "", false)
def tyJ9 : Nat → FieldType := fun k => match k with
  | _ => .int
abbrev wsJ90 : List Cond := u_ws RJ9 TJ9 0
theorem nmJ9 : ∀ a, a < 0 → ∀ b, b < 0 → a ≠ b → (TJ9 a).2.1 ≠ (TJ9 b).2.1 := by decide +kernel
theorem tyJ9_ok : ∀ k, k < 0 → parseFieldDescriptor (TJ9 k).2.2.1 = some (tyJ9 k) := by decide +kernel
abbrev cJ9_max_7cf53 : ByteArray := prog_10_method_65_code
def yJ9_max_7cf53 : MethodName := ⟨RJ9, "max", "(II)I"⟩
abbrev cJ9_max_f86c9 : ByteArray := prog_10_method_66_code
def yJ9_max_f86c9 : MethodName := ⟨RJ9, "max", "(JJ)J"⟩
abbrev cJ9_min_7cf53 : ByteArray := prog_10_method_69_code
def yJ9_min_7cf53 : MethodName := ⟨RJ9, "min", "(II)I"⟩
def RJ0 : String := "java/lang/String"
def TJ0 : u_T := fun k => match k with
  | _ => ("", "", "", false)
def tyJ0 : Nat → FieldType := fun k => match k with
  | _ => .int
abbrev wsJ00 : List Cond := u_ws RJ0 TJ0 0
theorem nmJ0 : ∀ a, a < 0 → ∀ b, b < 0 → a ≠ b → (TJ0 a).2.1 ≠ (TJ0 b).2.1 := by decide +kernel
theorem tyJ0_ok : ∀ k, k < 0 → parseFieldDescriptor (TJ0 k).2.2.1 = some (tyJ0 k) := by decide +kernel
abbrev cJ0_length_8abf5 : ByteArray := prog_11_method_54_code
def yJ0_length_8abf5 : MethodName := ⟨RJ0, "length", "()I"⟩
abbrev cJ0_charAt_5068e : ByteArray := prog_11_method_56_code
def yJ0_charAt_5068e : MethodName := ⟨RJ0, "charAt", "(I)C"⟩
abbrev cJ0_coder_7d493 : ByteArray := prog_11_method_152_code
def yJ0_coder_7d493 : MethodName := ⟨RJ0, "coder", "()B"⟩
abbrev cJ0_isLatin1_aae02 : ByteArray := prog_11_method_154_code
def yJ0_isLatin1_aae02 : MethodName := ⟨RJ0, "isLatin1", "()Z"⟩
abbrev cJ0_checkIndex_df160 : ByteArray := prog_11_method_155_code
def yJ0_checkIndex_df160 : MethodName := ⟨RJ0, "checkIndex", "(II)V"⟩
def RJ1 : String := "java/lang/StringLatin1"
def TJ1 : u_T := fun k => match k with
  | _ => ("", "", "", false)
def tyJ1 : Nat → FieldType := fun k => match k with
  | _ => .int
abbrev wsJ10 : List Cond := u_ws RJ1 TJ1 0
theorem nmJ1 : ∀ a, a < 0 → ∀ b, b < 0 → a ≠ b → (TJ1 a).2.1 ≠ (TJ1 b).2.1 := by decide +kernel
theorem tyJ1_ok : ∀ k, k < 0 → parseFieldDescriptor (TJ1 k).2.2.1 = some (tyJ1 k) := by decide +kernel
abbrev cJ1_charAt_3b067 : ByteArray := prog_12_method_2_code
def yJ1_charAt_3b067 : MethodName := ⟨RJ1, "charAt", "([BI)C"⟩
def RJ2 : String := "java/lang/StringUTF16"
def TJ2 : u_T := fun k => match k with
  | _ => ("", "", "", false)
def tyJ2 : Nat → FieldType := fun k => match k with
  | _ => .int
abbrev wsJ20 : List Cond := u_ws RJ2 TJ2 0
theorem nmJ2 : ∀ a, a < 0 → ∀ b, b < 0 → a ≠ b → (TJ2 a).2.1 ≠ (TJ2 b).2.1 := by decide +kernel
theorem tyJ2_ok : ∀ k, k < 0 → parseFieldDescriptor (TJ2 k).2.2.1 = some (tyJ2 k) := by decide +kernel
abbrev cJ2_getChar_3b067 : ByteArray := prog_13_method_5_code
def yJ2_getChar_3b067 : MethodName := ⟨RJ2, "getChar", "([BI)C"⟩
abbrev cJ2_length_9d52b : ByteArray := prog_13_method_6_code
def yJ2_length_9d52b : MethodName := ⟨RJ2, "length", "([B)I"⟩
abbrev cJ2_charAt_3b067 : ByteArray := prog_13_method_83_code
def yJ2_charAt_3b067 : MethodName := ⟨RJ2, "charAt", "([BI)C"⟩
abbrev cJ2_checkIndex_2214a : ByteArray := prog_13_method_91_code
def yJ2_checkIndex_2214a : MethodName := ⟨RJ2, "checkIndex", "(I[B)V"⟩
def RJ10 : String := "java/lang/System"
def TJ10 : u_T := fun k => match k with
  | _ => ("", "", "", false)
def tyJ10 : Nat → FieldType := fun k => match k with
  | _ => .int
abbrev wsJ100 : List Cond := u_ws RJ10 TJ10 0
theorem nmJ10 : ∀ a, a < 0 → ∀ b, b < 0 → a ≠ b → (TJ10 a).2.1 ≠ (TJ10 b).2.1 := by decide +kernel
theorem tyJ10_ok : ∀ k, k < 0 → parseFieldDescriptor (TJ10 k).2.2.1 = some (tyJ10 k) := by decide +kernel
def RJ3 : String := "jdk/internal/util/Preconditions"
def TJ3 : u_T := fun k => match k with
  | _ => ("", "", "", false)
def tyJ3 : Nat → FieldType := fun k => match k with
  | _ => .int
abbrev wsJ30 : List Cond := u_ws RJ3 TJ3 0
theorem nmJ3 : ∀ a, a < 0 → ∀ b, b < 0 → a ≠ b → (TJ3 a).2.1 ≠ (TJ3 b).2.1 := by decide +kernel
theorem tyJ3_ok : ∀ k, k < 0 → parseFieldDescriptor (TJ3 k).2.2.1 = some (tyJ3 k) := by decide +kernel
abbrev cJ3_checkIndex_8e157 : ByteArray := prog_15_method_11_code
def yJ3_checkIndex_8e157 : MethodName := ⟨RJ3, "checkIndex", "(IILjava/util/function/BiFunction;)I"⟩
def RL : String := "RainCoverLaw"
abbrev cL_law : ByteArray := code
def yL_law : MethodName := ⟨RL, "law", "([I)Z"⟩
abbrev vwCl : List vw_C := [(RX0, TX0, 7), (RX1, TX1, 11), (RX2, TX2, 3), (RX3, TX3, 4), (RX4, TX4, 11), (RX5, TX5, 10), (RX6, TX6, 29)]
end
section
/-! THE JUDGEMENT J: a method's code over a heap of places. Place k lies at the address ad k; what it is (σ) and its ints (h). -/
abbrev jH : Type := Nat → Nat → Int32
abbrev jD : Type := (Nat × Nat) ⊕ ((Nat × List (Option Nat)) ⊕ (Nat × List (Option (Option Nat))))
abbrev jG : Type := Launch × va_G × (Nat → ClassId) × (Nat → Nat) × Nat
abbrev jY : Type := String × MethodName × ByteArray × Nat × Option FieldType
abbrev jQ : Type := Option Value → List jD → jH → Prop
def j_v (ad : Nat → Nat) : Value → Value
  | .ref k => .ref (ad k)
  | v => v
def j_f (ad : Nat → Nat) (f : Nat → Int32) (j : Nat) (x : Option (Option Nat)) : Value := match x with
  | none => .int (f j)
  | some r => va_rf (r.map ad)
def j_e (g : jG) (d : jD) (f : Nat → Int32) : va_E := match d with
  | .inl a => .inl (g.2.2.1 a.1, a.2, .inl f)
  | .inr (.inl a) => .inl (g.2.2.1 a.1, a.2.length, .inr (.inr (.inr (.inr (fun i => (a.2.getD i none).map g.2.2.2.1)))))
  | .inr (.inr o) => .inr (o.1, o.2.mapIdx (j_f g.2.2.2.1 f))
def j_w (g : jG) (σ : List jD) (h : jH) : va_W := σ.mapIdx (fun k d => (g.2.2.2.1 k, j_e g d (h k)))
def j_A (g : jG) : Nat → Prop := fun q => g.2.2.2.2 ≤ q
def j_P (g : jG) (σ : List jD) (h : jH) (H : Heap) : Prop := σ.length ≤ 100000 ∧ H.size = g.2.2.2.2 + σ.length ∧ va_P g.2.1 vwCl (j_w g σ h) H
def j_t (g : jG) : List (ClassId × FieldType) := [(g.2.2.1 0, .int), (g.2.2.1 1, .boolean), (g.2.2.1 2, .array .int), (g.2.2.1 3, .object "RainCover$Valley"), (g.2.2.1 4, .object "RainCover$Sheet")]
theorem j_w_at {g : jG} {σ : List jD} {h : jH} {k : Nat} {d : jD} (e : σ[k]? = some d) : (j_w g σ h)[k]? = some (g.2.2.2.1 k, j_e g d (h k)) := by
  unfold j_w
  rw [List.getElem?_mapIdx, e]
  rfl
theorem j_w_len {g : jG} {σ : List jD} {h : jH} : (j_w g σ h).length = σ.length := by simp [j_w]
theorem j_D {g : jG} {σ : List jD} {h : jH} (ha : ∀ k, k < 100000 → g.2.2.2.1 k = g.2.2.2.2 + k) (hz : σ.length ≤ 100000) : va_D (j_A g) (j_w g σ h) := by
  have at' : ∀ (k : Nat) (q : Nat × va_E), (j_w g σ h)[k]? = some q → k < σ.length ∧ q.1 = g.2.2.2.2 + k := fun k q hq => by
    have hk : k < (j_w g σ h).length := (List.getElem?_eq_some_iff.mp hq).1
    rw [j_w_len] at hk
    have e : σ[k]? = some σ[k] := List.getElem?_eq_getElem hk
    rw [j_w_at e] at hq
    cases hq
    exact ⟨hk, ha k (by omega)⟩
  refine ⟨fun i j p q hi hj hpq => ?_, fun k q hq => ?_⟩
  · have h1 := (at' i p hi).2
    have h2 := (at' j q hj).2
    omega
  · have h1 := (at' k q hq).2
    show g.2.2.2.2 ≤ q.1
    omega
/-- one int of a place changes -/
def j_up (h : jH) (a i : Nat) (x : Int32) : jH := fun b j => if b = a ∧ j = i then x else h b j
/-- a whole row of a place changes -/
def j_row (h : jH) (a : Nat) (f : Nat → Int32) : jH := fun b j => if b = a then f j else h b j
theorem j_w_set {g : jG} {σ : List jD} {h h' : jH} {a : Nat} {d d' : jD} (e : σ[a]? = some d) (ho : ∀ b, b ≠ a → h' b = h b) : (j_w g σ h).set a (g.2.2.2.1 a, j_e g d' (h' a)) = j_w g (σ.set a d') h' := by
  apply List.ext_getElem?
  intro k
  have hl : a < σ.length := (List.getElem?_eq_some_iff.mp e).1
  by_cases hk : k = a
  · subst hk
    rw [List.getElem?_set_self (by rw [j_w_len]; exact hl), j_w_at (d := d') (List.getElem?_set_self hl)]
  · rw [List.getElem?_set_ne (fun z => hk z.symm)]
    unfold j_w
    rw [List.getElem?_mapIdx, List.getElem?_mapIdx, List.getElem?_set_ne (fun z => hk z.symm), ho k hk]
theorem j_set_same {σ : List jD} {a : Nat} {d : jD} (e : σ[a]? = some d) : σ.set a d = σ := by
  apply List.ext_getElem?
  intro k
  have hl : a < σ.length := (List.getElem?_eq_some_iff.mp e).1
  by_cases hk : k = a
  · subst hk
    rw [List.getElem?_set_self hl, e]
  · rw [List.getElem?_set_ne (fun z => hk z.symm)]
theorem j_w_set0 {g : jG} {σ : List jD} {h h' : jH} {a : Nat} {d : jD} (e : σ[a]? = some d) (ho : ∀ b, b ≠ a → h' b = h b) : (j_w g σ h).set a (g.2.2.2.1 a, j_e g d (h' a)) = j_w g σ h' := by
  rw [j_w_set e ho, j_set_same e]
theorem j_w_app {g : jG} {σ : List jD} {h h' : jH} {d : jD} (ho : ∀ b, b < σ.length → h' b = h b) : j_w g σ h ++ [(g.2.2.2.1 σ.length, j_e g d (h' σ.length))] = j_w g (σ ++ [d]) h' := by
  unfold j_w
  rw [List.mapIdx_append]
  congr 1
  · apply List.ext_getElem?
    intro k
    rw [List.getElem?_mapIdx, List.getElem?_mapIdx]
    cases e : σ[k]? with
    | none => rfl
    | some d =>
      have hl : k < σ.length := (List.getElem?_eq_some_iff.mp e).1
      simp [ho k hl]
  · simp
/-- locals -/
def j_l (ad : Nat → Nat) (ls : List (Nat × Value)) : List (Nat × Value) := ls.map (fun q => (q.1, j_v ad q.2))
def j_lk : List (Nat × Value) → Nat → Option Value
  | [], _ => none
  | q :: t, k => match Nat.beq q.1 k with
    | true => some q.2
    | false => j_lk t k
theorem j_lk_mem : ∀ {ls : List (Nat × Value)} {k : Nat} {v : Value}, j_lk ls k = some v → (k, v) ∈ ls
  | [], k, v, h => by cases h
  | q :: t, k, v, h => by
    unfold j_lk at h
    split at h
    next e =>
      have e2 := Nat.eq_of_beq_eq_true e
      cases h
      rw [← e2]
      exact List.mem_cons_self
    next e => exact List.mem_cons_of_mem _ (j_lk_mem h)
theorem j_at {ls : List (Nat × Value)} {k nL : Nat} {v : Value} {ad : Nat → Nat} {lsA : Array Slot} (hl : lv_has lsA nL (j_l ad ls)) (h : j_lk ls k = some v) : lsA[k]? = some (.val (j_v ad v)) :=
  hl.2.2 (k, j_v ad v) (List.mem_map.mpr ⟨(k, v), j_lk_mem h, rfl⟩)
def j_s1 (ls : List (Nat × Value)) (i : Nat) (v : Value) : List (Nat × Value) := (i, v) :: ls.filter (fun q => !(q.1 == i) && !(q.1 + 1 == i && q.2.category == 2))
def j_s2 (ls : List (Nat × Value)) (i : Nat) (v : Value) : List (Nat × Value) := (i, v) :: ls.filter (fun q => !(q.1 == i) && (!(q.1 == i + 1) && !(q.1 + 1 == i && q.2.category == 2)))
theorem j_v_cat {ad : Nat → Nat} (v : Value) : (j_v ad v).category = v.category := by cases v <;> rfl
theorem j_l_s1 {ad : Nat → Nat} {ls : List (Nat × Value)} {i : Nat} {v : Value} : (i, j_v ad v) :: (j_l ad ls).filter (fun q => !(q.1 == i) && !(q.1 + 1 == i && q.2.category == 2)) = j_l ad (j_s1 ls i v) := by
  unfold j_l j_s1
  rw [List.map_cons, List.filter_map]
  simp only [Function.comp_def, j_v_cat]
theorem j_l_s2 {ad : Nat → Nat} {ls : List (Nat × Value)} {i : Nat} {v : Value} : (i, j_v ad v) :: (j_l ad ls).filter (fun q => !(q.1 == i) && (!(q.1 == i + 1) && !(q.1 + 1 == i && q.2.category == 2))) = j_l ad (j_s2 ls i v) := by
  unfold j_l j_s2
  rw [List.map_cons, List.filter_map]
  simp only [Function.comp_def, j_v_cat]
def j_sub (ls : List (Nat × Value)) : List (Nat × Value) → Prop
  | [] => True
  | q :: t => j_lk ls q.1 = some q.2 ∧ j_sub ls t
theorem j_sub_mem {ls : List (Nat × Value)} : ∀ {l' : List (Nat × Value)}, j_sub ls l' → ∀ q ∈ l', q ∈ ls
  | [], _, q, h => by cases h
  | a :: t, h, q, hq => by
    rcases List.mem_cons.mp hq with rfl | hq
    · exact j_lk_mem h.1
    · exact j_sub_mem h.2 q hq
theorem j_less {ls ls' : List (Nat × Value)} {nL : Nat} {ad : Nat → Nat} {lsA : Array Slot} (hl : lv_has lsA nL (j_l ad ls)) (h : j_sub ls ls') : lv_has lsA nL (j_l ad ls') := by
  refine ⟨hl.1, hl.2.1, fun q hq => ?_⟩
  obtain ⟨x, hx, rfl⟩ := List.mem_map.mp hq
  exact hl.2.2 _ (List.mem_map.mpr ⟨x, j_sub_mem h x hx, rfl⟩)
end
section
/-! words: the tables' own, as far as they last through a call; the nest mates' links -/
def jB : List Cond := lw_tbl.filter goodWord
def j_isN : Cond → Bool
  | .fieldLinkNest .. => true
  | .methodLinkNest .. => true
  | _ => false
def jN : List Cond := lw_tbl.filter j_isN
theorem j_b {w : Cond} (i : Nat) (h : lw_tbl[i]? = some w) (hg : goodWord w = true) : w ∈ jB := List.mem_filter.mpr ⟨List.mem_of_getElem? h, hg⟩
theorem j_n {w : Cond} (i : Nat) (h : lw_tbl[i]? = some w) (hg : j_isN w = true) : w ∈ jN := List.mem_filter.mpr ⟨List.mem_of_getElem? h, hg⟩
theorem jB_good {w : Cond} (h : w ∈ jB) : (w.onTables && w.keeps) = true ∨ ∃ ty, w = .arrayClass ty := good_of_word (List.mem_filter.mp h).2
theorem jB_in {w : Cond} (h : w ∈ jB) : w ∈ lw_tbl := (List.mem_filter.mp h).1
def j_bri : List Int32 := [3, 1, -2, -3, -2, 1, 3, -3, -1, 3, -1, -1, -3, 0, 4, -4]
def j_fst : List Int32 := [0, 1, 5, 21, 85]
def j_stx : List (Nat × String × Nat × List Int32) := [
  (170, "farmer", 6, [102, 97, 114, 109, 101, 114]), (172, "boatman", 7, [98, 111, 97, 116, 109, 97, 110]), (174, "miller", 6, [109, 105, 108, 108, 101, 114]), (176, "eeler", 5, [101, 101, 108, 101, 114]),
  (178, "sun", 3, [115, 117, 110]), (180, "grey", 4, [103, 114, 101, 121]), (182, "wet", 3, [119, 101, 116]), (184, "frost", 5, [102, 114, 111, 115, 116]),
  (186, "cover", 5, [99, 111, 118, 101, 114]), (188, "odds", 4, [111, 100, 100, 115]), (190, "floor", 5, [102, 108, 111, 111, 114]), (192, "sky", 3, [115, 107, 121])]
def j_len : List Nat := j_stx.map (fun q => q.2.2.1)
def j_byt : List (List Int32) := j_stx.map (fun q => q.2.2.2)
/-- statics and String constants: at places from 200000 on -/
def j_X (g : jG) (U : State) : Prop :=
  va_Z "RainCover" "BRINGS" "[I" (.ref (g.2.2.2.1 200000)) (j_A g) U U.heap ∧ va_T .int (g.2.2.2.1 200000) 16 (fun i => .int (j_bri.getD i 0)) (j_A g) U U.heap ∧
  va_Z "RainCover$Outlook" "FIRST" "[I" (.ref (g.2.2.2.1 200001)) (j_A g) U U.heap ∧ va_T .int (g.2.2.2.1 200001) 5 (fun i => .int (j_fst.getD i 0)) (j_A g) U U.heap ∧
  (∀ i : Nat, i < 12 → vk_R "RainCover$Reader" ((j_stx.getD i (0, "", 0, [])).1) ((j_stx.getD i (0, "", 0, [])).2.1) (g.2.2.2.1 (300000 + i)) U) ∧
  vk_S 12 j_len j_byt (fun i => g.2.2.2.1 (300000 + i)) (fun i => g.2.2.2.1 (400000 + i)) (j_A g) U U.heap ∧
  va_Z "java/lang/String" "COMPACT_STRINGS" "Z" (.int 1) (j_A g) U U.heap
def j_E (g : jG) (U : State) : Prop := va_K g.2.1 vwCl (j_t g) U ∧ (∀ k, k < 100000 → g.2.2.2.1 k = g.2.2.2.2 + k) ∧ (∀ w ∈ jN, va_Nw w U) ∧ j_X g U
theorem j_Nw_warm {w : Cond} {s U : State} (hW : s.WarmedH U.vm) (hn : j_isN w = true) (h : va_Nw w s) : va_Nw w U := by
  cases w <;> first | exact va_Nw.warmF hW h | exact va_Nw.warmM hW h | cases hn
theorem j_E.moved {g : jG} {s U : State} {locs : List Loc} (hE : j_E g s) (hS : va_S (j_A g) s.heap U.heap locs) (hW : s.WarmedH U.vm) : j_E g U := by
  obtain ⟨h1, h2, h3, x1, x2, x3, x4, x5, x6, x7⟩ := hE
  have hq : ∀ a : Nat, a < s.heap.size → ¬ j_A g a → U.heap[a]? = s.heap[a]? := fun a h z => hS.2.1 a h z
  exact ⟨va_K.moved hW.alike h1, h2, fun w hw => j_Nw_warm hW (List.mem_filter.mp hw).2 (h3 w hw), (x1.moved hW.alike).kept hq, (x2.moved hW.alike).kept hq, (x3.moved hW.alike).kept hq, (x4.moved hW.alike).kept hq,
    fun i hi => (x5 i hi).warm hW, (x6.moved hW.alike).kept hq, (x7.moved hW.alike).kept hq⟩
theorem j_E.same {g : jG} {s U : State} (hh : U.heap = s.heap) (hv : U.vm = s.vm) (hE : j_E g s) : j_E g U := by
  obtain ⟨h1, h2, h3, x1, x2, x3, x4, x5, x6, x7⟩ := hE
  have ha : s.vm.Alike U.vm := by rw [hv]; exact Vm.Alike.refl _
  have hq : ∀ a : Nat, a < s.heap.size → ¬ j_A g a → U.heap[a]? = s.heap[a]? := fun a _ _ => by rw [hh]
  exact ⟨va_K.moved ha h1, h2, fun w hw => va_Nw.same (by have := (List.mem_filter.mp hw).2; cases w <;> first | rfl | cases this) hv.symm (h3 w hw), (x1.moved ha).kept hq, (x2.moved ha).kept hq, (x3.moved ha).kept hq, (x4.moved ha).kept hq,
    fun i hi => (x5 i hi).same hv, (x6.moved ha).kept hq, (x7.moved ha).kept hq⟩
/-- a return's instruction -/
def j_rt (Y : jY) (pc : Nat) (r : Option Value) : Prop := match r with
  | none => decode Y.2.2.1 pc = .ok (.return_, 1) ∧ Y.2.2.2.2 = none
  | some (.int x) => decode Y.2.2.1 pc = .ok (.ireturn, 1) ∧ ∃ ty, Y.2.2.2.2 = some ty ∧ narrow ty (.int x) = .int x
  | some (.long _) => decode Y.2.2.1 pc = .ok (.lreturn, 1) ∧ Y.2.2.2.2 = some .long
  | some (.ref _) => decode Y.2.2.1 pc = .ok (.areturn, 1) ∧ ∃ n, Y.2.2.2.2 = some (.object n)
  | _ => False
/-- where a method's body runs -/
def j_Cx (g : jG) (d : Nat) (Y : jY) (p : Program) (e : Env) (R : Room) (s : State) (m : MethodId) (args : Array Value) (below : List Frame) (meth : Method) (c : Code) (Qw : State → Prop) (Q : jQ) : Prop :=
  p.tables.exec = Jvm.exec ∧ c.code = Y.2.2.1 ∧ c.maxLocals = Y.2.2.2.1 ∧ s.vm.findClass Y.1 = some m.cls ∧ (∀ w ∈ jB, w.before args s = true) ∧ j_E g s ∧ g.2.2.2.2 ≤ s.heap.size ∧ d ≤ R.frames ∧ 37 * d ≤ R.locals ∧ meth.name = Y.2.1.name ∧
  ∀ (pc : Nat) (lsA : Array Slot) (r : Option Value) (σ : List jD) (h : jH) (H : Heap) (locs : List Loc) (cells slots : Nat), j_rt Y pc r → Q r σ h → j_P g σ h H → va_S (j_A g) s.heap H locs → cells ≤ R.cells → slots ≤ R.slots →
    W p g.1 e R s m args below meth c H locs cells slots Qw (F0 m pc lsA ((r.toList).map (j_v g.2.2.2.1)))
def J (g : jG) (d : Nat) (Y : jY) (b : Nat × Nat) (σ : List jD) (h : jH) (pc : Nat) (ls : List (Nat × Value)) (st : List Value) (Q : jQ) : Prop :=
  ∀ (p : Program) (e : Env) (R : Room) (s : State) (m : MethodId) (args : Array Value) (below : List Frame) (meth : Method) (c : Code) (Qw : State → Prop), j_Cx g d Y p e R s m args below meth c Qw Q →
  ∀ (H : Heap) (locs : List Loc) (cells slots : Nat) (lsA : Array Slot), cells + b.1 ≤ R.cells → slots + b.2 ≤ R.slots → j_P g σ h H → va_S (j_A g) s.heap H locs → lv_has lsA Y.2.2.2.1 (j_l g.2.2.2.1 ls) →
    W p g.1 e R s m args below meth c H locs cells slots Qw (F0 m pc lsA (st.map (j_v g.2.2.2.1)))
def j_rm (d : Nat) (b : Nat × Nat) : Room := { frames := d, cells := b.1, slots := b.2, locals := 37 * d }
def j_Pc (g : jG) (σ : List jD) (h : jH) (av : List Value) : Array Value → State → Prop := fun a U => a = (av.map (j_v g.2.2.2.1)).toArray ∧ g.2.2.2.2 ≤ U.heap.size ∧ j_P g σ h U.heap ∧ j_E g U
def j_Qc (g : jG) (Q : jQ) : Array Value → State → Outcome → State → Prop := fun _ st o t => (∃ (r : Option Value) (σ : List jD) (h : jH), o = .returned (r.map (j_v g.2.2.2.1)) ∧ Q r σ h ∧ j_P g σ h t.heap) ∧ va_F (j_A g) st t
def M (g : jG) (d : Nat) (Y : jY) (b : Nat × Nat) (σ : List jD) (h : jH) (av : List Value) (Q : jQ) : Prop :=
  Met g.1 Y.2.1 (.code Y.2.1 Y.2.2.1 Y.2.2.2.1 Y.2.2.2.2 :: jB) (j_rm d b) (j_Pc g σ h av) (j_Qc g Q) b.1 b.2 (j_A g)
theorem j_blind (g : jG) (σ : List jD) (h : jH) (av : List Value) : FrameBlind (j_Pc g σ h av) := fun a U f mk q => by
  obtain ⟨h1, h2, h3, h4⟩ := q
  exact ⟨h1, h2, h3, j_E.same (s := U) (U := U.calling f mk a) rfl rfl h4⟩
set_option maxHeartbeats 1000000 in
theorem M.of {g : jG} {d : Nat} {Y : jY} {b : Nat × Nat} {σ : List jD} {h : jH} {av : List Value} {Q : jQ} (hp : plainName Y.2.1.cls = true) (ho : Y.2.1.cls = Y.1) (hlen : (lg_sl (av.map (j_v g.2.2.2.1))).length ≤ Y.2.2.2.1)
    (k : J g d Y b σ h 0 (lv_args 0 av) [] Q) : M g d Y b σ h av Q := by
  obtain ⟨own, y, cc, maxL, ret⟩ := Y
  refine Met.ofW (cc := cc) (maxL := maxL) (ret := ret) hp rfl ?_
  intro p e s m args below meth c s₁ B hml hv
  obtain ⟨rfl, hsz, hP, hE⟩ := hv
  have hx := B.exec
  have hb := B.bytes
  have hr : meth.sig.returnType = ret := B.returns
  have hts := atoms_spec (ws := .code y cc maxL ret :: jB) B.pre
  have hown : s.vm.findClass y.cls = some m.cls := findClass_of_methodNamed B.named
  have hlocks := B.notSynchronized
  have hin : meth.name = y.name := (name_of_methodNamed B.named B.method).1
  have hS : va_S (j_A g) s.heap s.heap [] := va_S.rf
  have hl := lv_entry (av.map (j_v g.2.2.2.1)) (n := maxL) hlen
  rw [lg_entry_eq]
  have hla : lv_args 0 (av.map (j_v g.2.2.2.1)) = j_l g.2.2.2.1 (lv_args 0 av) := by
    have gen : ∀ (l : List Value) (i : Nat), lv_args i (l.map (j_v g.2.2.2.1)) = j_l g.2.2.2.1 (lv_args i l) := by
      intro l
      induction l with
      | nil => intro i; rfl
      | cons v t ih =>
        intro i
        show (i, j_v _ v) :: lv_args (if (j_v _ v).category = 2 then i + 2 else i + 1) (t.map _) = _
        rw [j_v_cat, ih]
        rfl
    exact gen av 0
  rw [hla] at hl
  refine k p e _ s m _ below meth c _ ⟨hx, hb, hml, by rw [← ho]; exact hown, fun w hw => hts w (List.mem_cons_of_mem _ hw), hE, hsz, Nat.le_refl _, Nat.le_refl _, hin, ?_⟩ s.heap [] 0 0 _ (by show 0 + b.1 ≤ b.1; omega) (by show 0 + b.2 ≤ b.2; omega) hP hS hl
  intro pc lsA r σ' h' H locs cells slots hrt hQ hP' hS' hc' hs'
  have hc' : cells ≤ b.1 := hc'
  have hs' : slots ≤ b.2 := hs'
  refine W.widen (k := b.1) (n := b.2) hc' hs' ?_
  match r, hrt, hQ with
  | none, hrt, hQ => exact W.vret hx hb (hr.trans hrt.2) (fun t ht hW => ⟨⟨none, σ', h', rfl, hQ, by rw [ht]; exact hP'⟩, hS'.F ht⟩) hS'.2.2 hrt.1
  | some (.int x), hrt, hQ =>
    obtain ⟨h1, ty, h2, h3⟩ := hrt
    exact W.zret hx hb (hr.trans h2) h3 (fun t ht hW => ⟨⟨some (.int x), σ', h', rfl, hQ, by rw [ht]; exact hP'⟩, hS'.F ht⟩) hS'.2.2 h1
  | some (.long x), hrt, hQ => exact W.lret hx hb (hr.trans hrt.2) (fun t ht hW => ⟨⟨some (.long x), σ', h', rfl, hQ, by rw [ht]; exact hP'⟩, hS'.F ht⟩) hS'.2.2 hrt.1
  | some (.ref x), hrt, hQ =>
    obtain ⟨h1, n, h2⟩ := hrt
    exact W.aret hx hb (hr.trans h2) (Or.inl ⟨n, rfl⟩) (Or.inr ⟨_, rfl⟩) (fun t ht hW => ⟨⟨some (.ref x), σ', h', rfl, hQ, by rw [ht]; exact hP'⟩, hS'.F ht⟩) hS'.2.2 h1
end
section
/-! RULES: an instruction each; goal first -/
section JR
variable {g : jG} {d : Nat} {Y : jY} {b : Nat × Nat} {σ : List jD} {h : jH} {pc : Nat} {ls : List (Nat × Value)} {st : List Value} {Q : jQ}
theorem J_iconst {n : Int} {v : Int32} (hd : decode Y.2.2.1 pc = .ok (.iconst n, 1)) (hv : Int32.ofInt n = v) (k : J g d Y b σ h (pc + 1) ls (.int v :: st) Q) : J g d Y b σ h pc ls (st) Q := by
  intro p e R s m args below meth c Qw C H locs cells slots lsA hc hs hP hS hl
  exact lv_iconst C.1 C.2.1 hd hv (k p e R s m args below meth c Qw C H locs cells slots lsA hc hs hP hS hl)
theorem J_bipush {n : Int} {v : Int32} (hd : decode Y.2.2.1 pc = .ok (.bipush n, 2)) (hv : (Int8.ofInt n).toInt32 = v) (k : J g d Y b σ h (pc + 2) ls (.int v :: st) Q) : J g d Y b σ h pc ls (st) Q := by
  intro p e R s m args below meth c Qw C H locs cells slots lsA hc hs hP hS hl
  exact lv_bipush C.1 C.2.1 hd hv (k p e R s m args below meth c Qw C H locs cells slots lsA hc hs hP hS hl)
theorem J_sipush {n : Int} {v : Int32} (hd : decode Y.2.2.1 pc = .ok (.sipush n, 3)) (hv : (Int16.ofInt n).toInt32 = v) (k : J g d Y b σ h (pc + 3) ls (.int v :: st) Q) : J g d Y b σ h pc ls (st) Q := by
  intro p e R s m args below meth c Qw C H locs cells slots lsA hc hs hP hS hl
  exact lv_sipush C.1 C.2.1 hd hv (k p e R s m args below meth c Qw C H locs cells slots lsA hc hs hP hS hl)
theorem J_lconst {n : Fin 2} {v : Int64} (hd : decode Y.2.2.1 pc = .ok (.lconst n, 1)) (hv : Int64.ofNat (n : Nat) = v) (k : J g d Y b σ h (pc + 1) ls (.long v :: st) Q) : J g d Y b σ h pc ls (st) Q := by
  intro p e R s m args below meth c Qw C H locs cells slots lsA hc hs hP hS hl
  exact lv_lconst C.1 C.2.1 hd hv (k p e R s m args below meth c Qw C H locs cells slots lsA hc hs hP hS hl)
theorem J_iload_n {k : Fin 4} {x : Int32} (hd : decode Y.2.2.1 pc = .ok (.iload_n k, 1)) (hv : j_lk ls (k : Nat) = some (.int x)) (kk : J g d Y b σ h (pc + 1) ls (.int x :: st) Q) : J g d Y b σ h pc ls st Q := by
  intro p e R s m args below meth c Qw C H locs cells slots lsA hc hs hP hS hl
  exact lv_iload_n C.1 C.2.1 hd rfl (j_at hl hv) (kk p e R s m args below meth c Qw C H locs cells slots lsA hc hs hP hS hl)
theorem J_iload {i : Nat} {x : Int32} (hd : decode Y.2.2.1 pc = .ok (.iload i, 2)) (hv : j_lk ls i = some (.int x)) (kk : J g d Y b σ h (pc + 2) ls (.int x :: st) Q) : J g d Y b σ h pc ls st Q := by
  intro p e R s m args below meth c Qw C H locs cells slots lsA hc hs hP hS hl
  exact lv_iload C.1 C.2.1 hd (j_at hl hv) (kk p e R s m args below meth c Qw C H locs cells slots lsA hc hs hP hS hl)
theorem J_istore_n {k : Fin 4} {x : Int32} (hd : decode Y.2.2.1 pc = .ok (.istore_n k, 1)) (hn : (k : Nat) < Y.2.2.2.1) (kk : J g d Y b σ h (pc + 1) (j_s1 ls (k : Nat) (.int x)) st Q) : J g d Y b σ h pc ls (.int x :: st) Q := by
  intro p e R s m args below meth c Qw C H locs cells slots lsA hc hs hP hS hl
  exact lv_istore_n C.1 C.2.1 hd rfl hl hn (j_l_s1 (v := .int x)) (fun ls' hl' => kk p e R s m args below meth c Qw C H locs cells slots ls' hc hs hP hS hl')
theorem J_istore {i : Nat} {x : Int32} (hd : decode Y.2.2.1 pc = .ok (.istore i, 2)) (hn : i < Y.2.2.2.1) (kk : J g d Y b σ h (pc + 2) (j_s1 ls i (.int x)) st Q) : J g d Y b σ h pc ls (.int x :: st) Q := by
  intro p e R s m args below meth c Qw C H locs cells slots lsA hc hs hP hS hl
  exact lv_istore C.1 C.2.1 hd hl hn (j_l_s1 (v := .int x)) (fun ls' hl' => kk p e R s m args below meth c Qw C H locs cells slots ls' hc hs hP hS hl')
theorem J_lload_n {k : Fin 4} {x : Int64} (hd : decode Y.2.2.1 pc = .ok (.lload_n k, 1)) (hv : j_lk ls (k : Nat) = some (.long x)) (kk : J g d Y b σ h (pc + 1) ls (.long x :: st) Q) : J g d Y b σ h pc ls st Q := by
  intro p e R s m args below meth c Qw C H locs cells slots lsA hc hs hP hS hl
  exact lv_lload_n C.1 C.2.1 hd rfl (j_at hl hv) (kk p e R s m args below meth c Qw C H locs cells slots lsA hc hs hP hS hl)
theorem J_lload {i : Nat} {x : Int64} (hd : decode Y.2.2.1 pc = .ok (.lload i, 2)) (hv : j_lk ls i = some (.long x)) (kk : J g d Y b σ h (pc + 2) ls (.long x :: st) Q) : J g d Y b σ h pc ls st Q := by
  intro p e R s m args below meth c Qw C H locs cells slots lsA hc hs hP hS hl
  exact lv_lload C.1 C.2.1 hd (j_at hl hv) (kk p e R s m args below meth c Qw C H locs cells slots lsA hc hs hP hS hl)
theorem J_lstore_n {k : Fin 4} {x : Int64} (hd : decode Y.2.2.1 pc = .ok (.lstore_n k, 1)) (hn : (k : Nat) + 1 < Y.2.2.2.1) (kk : J g d Y b σ h (pc + 1) (j_s2 ls (k : Nat) (.long x)) st Q) : J g d Y b σ h pc ls (.long x :: st) Q := by
  intro p e R s m args below meth c Qw C H locs cells slots lsA hc hs hP hS hl
  exact lv_lstore_n C.1 C.2.1 hd rfl hl hn (j_l_s2 (v := .long x)) (fun ls' hl' => kk p e R s m args below meth c Qw C H locs cells slots ls' hc hs hP hS hl')
theorem J_lstore {i : Nat} {x : Int64} (hd : decode Y.2.2.1 pc = .ok (.lstore i, 2)) (hn : i + 1 < Y.2.2.2.1) (kk : J g d Y b σ h (pc + 2) (j_s2 ls i (.long x)) st Q) : J g d Y b σ h pc ls (.long x :: st) Q := by
  intro p e R s m args below meth c Qw C H locs cells slots lsA hc hs hP hS hl
  exact lv_lstore C.1 C.2.1 hd hl hn (j_l_s2 (v := .long x)) (fun ls' hl' => kk p e R s m args below meth c Qw C H locs cells slots ls' hc hs hP hS hl')
theorem J_aload_n {k : Fin 4} {x : Nat} (hd : decode Y.2.2.1 pc = .ok (.aload_n k, 1)) (hv : j_lk ls (k : Nat) = some (.ref x)) (kk : J g d Y b σ h (pc + 1) ls (.ref x :: st) Q) : J g d Y b σ h pc ls st Q := by
  intro p e R s m args below meth c Qw C H locs cells slots lsA hc hs hP hS hl
  exact lv_aload_n C.1 C.2.1 hd rfl (j_at hl hv) (kk p e R s m args below meth c Qw C H locs cells slots lsA hc hs hP hS hl)
theorem J_aload {i : Nat} {x : Nat} (hd : decode Y.2.2.1 pc = .ok (.aload i, 2)) (hv : j_lk ls i = some (.ref x)) (kk : J g d Y b σ h (pc + 2) ls (.ref x :: st) Q) : J g d Y b σ h pc ls st Q := by
  intro p e R s m args below meth c Qw C H locs cells slots lsA hc hs hP hS hl
  exact lv_aload C.1 C.2.1 hd (j_at hl hv) (kk p e R s m args below meth c Qw C H locs cells slots lsA hc hs hP hS hl)
theorem J_astore_n {k : Fin 4} {x : Nat} (hd : decode Y.2.2.1 pc = .ok (.astore_n k, 1)) (hn : (k : Nat) < Y.2.2.2.1) (kk : J g d Y b σ h (pc + 1) (j_s1 ls (k : Nat) (.ref x)) st Q) : J g d Y b σ h pc ls (.ref x :: st) Q := by
  intro p e R s m args below meth c Qw C H locs cells slots lsA hc hs hP hS hl
  exact lv_astore_n C.1 C.2.1 hd rfl hl hn (j_l_s1 (v := .ref x)) (fun ls' hl' => kk p e R s m args below meth c Qw C H locs cells slots ls' hc hs hP hS hl')
theorem J_astore {i : Nat} {x : Nat} (hd : decode Y.2.2.1 pc = .ok (.astore i, 2)) (hn : i < Y.2.2.2.1) (kk : J g d Y b σ h (pc + 2) (j_s1 ls i (.ref x)) st Q) : J g d Y b σ h pc ls (.ref x :: st) Q := by
  intro p e R s m args below meth c Qw C H locs cells slots lsA hc hs hP hS hl
  exact lv_astore C.1 C.2.1 hd hl hn (j_l_s1 (v := .ref x)) (fun ls' hl' => kk p e R s m args below meth c Qw C H locs cells slots ls' hc hs hP hS hl')
theorem J_iinc {i : Nat} {n : Int} {x v : Int32} (hd : decode Y.2.2.1 pc = .ok (.iinc i n, 3)) (hv : j_lk ls i = some (.int x)) (he : x + Int32.ofInt n = v) (hn : i < Y.2.2.2.1) (kk : J g d Y b σ h (pc + 3) (j_s1 ls i (.int v)) st Q) : J g d Y b σ h pc ls st Q := by
  intro p e R s m args below meth c Qw C H locs cells slots lsA hc hs hP hS hl
  obtain ⟨k, hk⟩ := List.getElem?_of_mem (List.mem_map.mpr ⟨(i, Value.int x), j_lk_mem hv, rfl⟩ : (i, Value.int x) ∈ j_l g.2.2.2.1 ls)
  exact lv_iinc (k := k) C.1 C.2.1 hd hl hk he hn (j_l_s1 (v := .int v)) (fun ls' hl' => kk p e R s m args below meth c Qw C H locs cells slots ls' hc hs hP hS hl')
theorem J_iadd {x y v : Int32} (hd : decode Y.2.2.1 pc = .ok (.iadd, 1)) (hv : x + y = v) (k : J g d Y b σ h (pc + 1) ls (.int v :: st) Q) : J g d Y b σ h pc ls (.int y :: .int x :: st) Q := by
  subst hv
  intro p e R s m args below meth c Qw C H locs cells slots lsA hc hs hP hS hl
  exact lv_iadd C.1 C.2.1 hd (k p e R s m args below meth c Qw C H locs cells slots lsA hc hs hP hS hl)
theorem J_isub {x y v : Int32} (hd : decode Y.2.2.1 pc = .ok (.isub, 1)) (hv : x - y = v) (k : J g d Y b σ h (pc + 1) ls (.int v :: st) Q) : J g d Y b σ h pc ls (.int y :: .int x :: st) Q := by
  subst hv
  intro p e R s m args below meth c Qw C H locs cells slots lsA hc hs hP hS hl
  exact lv_isub C.1 C.2.1 hd (k p e R s m args below meth c Qw C H locs cells slots lsA hc hs hP hS hl)
theorem J_imul {x y v : Int32} (hd : decode Y.2.2.1 pc = .ok (.imul, 1)) (hv : x * y = v) (k : J g d Y b σ h (pc + 1) ls (.int v :: st) Q) : J g d Y b σ h pc ls (.int y :: .int x :: st) Q := by
  subst hv
  intro p e R s m args below meth c Qw C H locs cells slots lsA hc hs hP hS hl
  exact lv_imul C.1 C.2.1 hd (k p e R s m args below meth c Qw C H locs cells slots lsA hc hs hP hS hl)
theorem J_iand {x y v : Int32} (hd : decode Y.2.2.1 pc = .ok (.iand, 1)) (hv : x &&& y = v) (k : J g d Y b σ h (pc + 1) ls (.int v :: st) Q) : J g d Y b σ h pc ls (.int y :: .int x :: st) Q := by
  subst hv
  intro p e R s m args below meth c Qw C H locs cells slots lsA hc hs hP hS hl
  exact lv_iand C.1 C.2.1 hd (k p e R s m args below meth c Qw C H locs cells slots lsA hc hs hP hS hl)
theorem J_ior {x y v : Int32} (hd : decode Y.2.2.1 pc = .ok (.ior, 1)) (hv : x ||| y = v) (k : J g d Y b σ h (pc + 1) ls (.int v :: st) Q) : J g d Y b σ h pc ls (.int y :: .int x :: st) Q := by
  subst hv
  intro p e R s m args below meth c Qw C H locs cells slots lsA hc hs hP hS hl
  exact lv_ior C.1 C.2.1 hd (k p e R s m args below meth c Qw C H locs cells slots lsA hc hs hP hS hl)
theorem J_ixor {x y v : Int32} (hd : decode Y.2.2.1 pc = .ok (.ixor, 1)) (hv : x ^^^ y = v) (k : J g d Y b σ h (pc + 1) ls (.int v :: st) Q) : J g d Y b σ h pc ls (.int y :: .int x :: st) Q := by
  subst hv
  intro p e R s m args below meth c Qw C H locs cells slots lsA hc hs hP hS hl
  exact lv_ixor C.1 C.2.1 hd (k p e R s m args below meth c Qw C H locs cells slots lsA hc hs hP hS hl)
theorem J_ishl {x y v : Int32} (hd : decode Y.2.2.1 pc = .ok (.ishl, 1)) (hv : x <<< (y &&& 31) = v) (k : J g d Y b σ h (pc + 1) ls (.int v :: st) Q) : J g d Y b σ h pc ls (.int y :: .int x :: st) Q := by
  subst hv
  intro p e R s m args below meth c Qw C H locs cells slots lsA hc hs hP hS hl
  exact lv_ishl C.1 C.2.1 hd (k p e R s m args below meth c Qw C H locs cells slots lsA hc hs hP hS hl)
theorem J_ishr {x y v : Int32} (hd : decode Y.2.2.1 pc = .ok (.ishr, 1)) (hv : x >>> (y &&& 31) = v) (k : J g d Y b σ h (pc + 1) ls (.int v :: st) Q) : J g d Y b σ h pc ls (.int y :: .int x :: st) Q := by
  subst hv
  intro p e R s m args below meth c Qw C H locs cells slots lsA hc hs hP hS hl
  exact lv_ishr C.1 C.2.1 hd (k p e R s m args below meth c Qw C H locs cells slots lsA hc hs hP hS hl)
theorem J_iushr {x y v : Int32} (hd : decode Y.2.2.1 pc = .ok (.iushr, 1)) (hv : (x.toUInt32 >>> (y.toUInt32 &&& Int32.toUInt32 31)).toInt32 = v) (k : J g d Y b σ h (pc + 1) ls (.int v :: st) Q) : J g d Y b σ h pc ls (.int y :: .int x :: st) Q := by
  intro p e R s m args below meth c Qw C H locs cells slots lsA hc hs hP hS hl
  exact lv_iushr C.1 C.2.1 hd hv (k p e R s m args below meth c Qw C H locs cells slots lsA hc hs hP hS hl)
theorem J_idiv {x y v : Int32} (hd : decode Y.2.2.1 pc = .ok (.idiv, 1)) (hne : ¬ y = 0) (hv : x / y = v) (k : J g d Y b σ h (pc + 1) ls (.int v :: st) Q) : J g d Y b σ h pc ls (.int y :: .int x :: st) Q := by
  subst hv
  intro p e R s m args below meth c Qw C H locs cells slots lsA hc hs hP hS hl
  exact lv_idiv C.1 C.2.1 hd hne (k p e R s m args below meth c Qw C H locs cells slots lsA hc hs hP hS hl)
theorem J_irem {x y v : Int32} (hd : decode Y.2.2.1 pc = .ok (.irem, 1)) (hne : ¬ y = 0) (hv : x - x / y * y = v) (k : J g d Y b σ h (pc + 1) ls (.int v :: st) Q) : J g d Y b σ h pc ls (.int y :: .int x :: st) Q := by
  subst hv
  intro p e R s m args below meth c Qw C H locs cells slots lsA hc hs hP hS hl
  exact lv_irem C.1 C.2.1 hd hne (k p e R s m args below meth c Qw C H locs cells slots lsA hc hs hP hS hl)
theorem J_ladd {x y v : Int64} (hd : decode Y.2.2.1 pc = .ok (.ladd, 1)) (hv : x + y = v) (k : J g d Y b σ h (pc + 1) ls (.long v :: st) Q) : J g d Y b σ h pc ls (.long y :: .long x :: st) Q := by
  subst hv
  intro p e R s m args below meth c Qw C H locs cells slots lsA hc hs hP hS hl
  exact lv_ladd C.1 C.2.1 hd (k p e R s m args below meth c Qw C H locs cells slots lsA hc hs hP hS hl)
theorem J_lsub {x y v : Int64} (hd : decode Y.2.2.1 pc = .ok (.lsub, 1)) (hv : x - y = v) (k : J g d Y b σ h (pc + 1) ls (.long v :: st) Q) : J g d Y b σ h pc ls (.long y :: .long x :: st) Q := by
  subst hv
  intro p e R s m args below meth c Qw C H locs cells slots lsA hc hs hP hS hl
  exact lv_lsub C.1 C.2.1 hd (k p e R s m args below meth c Qw C H locs cells slots lsA hc hs hP hS hl)
theorem J_lmul {x y v : Int64} (hd : decode Y.2.2.1 pc = .ok (.lmul, 1)) (hv : x * y = v) (k : J g d Y b σ h (pc + 1) ls (.long v :: st) Q) : J g d Y b σ h pc ls (.long y :: .long x :: st) Q := by
  subst hv
  intro p e R s m args below meth c Qw C H locs cells slots lsA hc hs hP hS hl
  exact lv_lmul C.1 C.2.1 hd (k p e R s m args below meth c Qw C H locs cells slots lsA hc hs hP hS hl)
theorem J_ldiv {x y v : Int64} (hd : decode Y.2.2.1 pc = .ok (.ldiv, 1)) (hne : ¬ y = 0) (hv : x / y = v) (k : J g d Y b σ h (pc + 1) ls (.long v :: st) Q) : J g d Y b σ h pc ls (.long y :: .long x :: st) Q := by
  subst hv
  intro p e R s m args below meth c Qw C H locs cells slots lsA hc hs hP hS hl
  exact lv_ldiv C.1 C.2.1 hd hne (k p e R s m args below meth c Qw C H locs cells slots lsA hc hs hP hS hl)
theorem J_lrem {x y v : Int64} (hd : decode Y.2.2.1 pc = .ok (.lrem, 1)) (hne : ¬ y = 0) (hv : x - x / y * y = v) (k : J g d Y b σ h (pc + 1) ls (.long v :: st) Q) : J g d Y b σ h pc ls (.long y :: .long x :: st) Q := by
  subst hv
  intro p e R s m args below meth c Qw C H locs cells slots lsA hc hs hP hS hl
  exact lv_lrem C.1 C.2.1 hd hne (k p e R s m args below meth c Qw C H locs cells slots lsA hc hs hP hS hl)
theorem J_lneg {x v : Int64} (hd : decode Y.2.2.1 pc = .ok (.lneg, 1)) (hv : -x = v) (k : J g d Y b σ h (pc + 1) ls (.long v :: st) Q) : J g d Y b σ h pc ls (.long x :: st) Q := by
  subst hv
  intro p e R s m args below meth c Qw C H locs cells slots lsA hc hs hP hS hl
  exact lv_lneg C.1 C.2.1 hd (k p e R s m args below meth c Qw C H locs cells slots lsA hc hs hP hS hl)
theorem J_lcmp {x y : Int64} (hd : decode Y.2.2.1 pc = .ok (.lcmp, 1)) (k : J g d Y b σ h (pc + 1) ls (.int (lg_cmp x y) :: st) Q) : J g d Y b σ h pc ls (.long y :: .long x :: st) Q := by
  intro p e R s m args below meth c Qw C H locs cells slots lsA hc hs hP hS hl
  exact W.lcmp C.1 C.2.1 hd (k p e R s m args below meth c Qw C H locs cells slots lsA hc hs hP hS hl)
theorem J_i2l {x : Int32} {v : Int64} (hd : decode Y.2.2.1 pc = .ok (.i2l, 1)) (hv : x.toInt64 = v) (k : J g d Y b σ h (pc + 1) ls (.long v :: st) Q) : J g d Y b σ h pc ls (.int x :: st) Q := by
  intro p e R s m args below meth c Qw C H locs cells slots lsA hc hs hP hS hl
  exact lv_i2l C.1 C.2.1 hd hv (k p e R s m args below meth c Qw C H locs cells slots lsA hc hs hP hS hl)
theorem J_i2b {x v : Int32} (hd : decode Y.2.2.1 pc = .ok (.i2b, 1)) (hv : x.toInt8.toInt32 = v) (k : J g d Y b σ h (pc + 1) ls (.int v :: st) Q) : J g d Y b σ h pc ls (.int x :: st) Q := by
  intro p e R s m args below meth c Qw C H locs cells slots lsA hc hs hP hS hl
  exact lv_i2b C.1 C.2.1 hd hv (k p e R s m args below meth c Qw C H locs cells slots lsA hc hs hP hS hl)
theorem J_i2s {x v : Int32} (hd : decode Y.2.2.1 pc = .ok (.i2s, 1)) (hv : x.toInt16.toInt32 = v) (k : J g d Y b σ h (pc + 1) ls (.int v :: st) Q) : J g d Y b σ h pc ls (.int x :: st) Q := by
  intro p e R s m args below meth c Qw C H locs cells slots lsA hc hs hP hS hl
  exact lv_i2s C.1 C.2.1 hd hv (k p e R s m args below meth c Qw C H locs cells slots lsA hc hs hP hS hl)
theorem J_dup {v : Value} (hd : decode Y.2.2.1 pc = .ok (.dup, 1)) (hv : v.category = 1) (k : J g d Y b σ h (pc + 1) ls (v :: v :: st) Q) : J g d Y b σ h pc ls (v :: st) Q := by
  intro p e R s m args below meth c Qw C H locs cells slots lsA hc hs hP hS hl
  exact lv_dup C.1 C.2.1 hd ((j_v_cat v).trans hv) (k p e R s m args below meth c Qw C H locs cells slots lsA hc hs hP hS hl)
theorem J_pop {v : Value} (hd : decode Y.2.2.1 pc = .ok (.pop, 1)) (hv : v.category = 1) (k : J g d Y b σ h (pc + 1) ls st Q) : J g d Y b σ h pc ls (v :: st) Q := by
  intro p e R s m args below meth c Qw C H locs cells slots lsA hc hs hP hS hl
  exact lv_pop C.1 C.2.1 hd ((j_v_cat v).trans hv) (k p e R s m args below meth c Qw C H locs cells slots lsA hc hs hP hS hl)
theorem J_dup2 {v w : Value} (hd : decode Y.2.2.1 pc = .ok (.dup2, 1)) (hv : v.category = 1) (hw : w.category = 1) (k : J g d Y b σ h (pc + 1) ls (v :: w :: v :: w :: st) Q) : J g d Y b σ h pc ls (v :: w :: st) Q := by
  intro p e R s m args below meth c Qw C H locs cells slots lsA hc hs hP hS hl
  exact lv_dup2_11 C.1 C.2.1 hd ((j_v_cat v).trans hv) ((j_v_cat w).trans hw) (k p e R s m args below meth c Qw C H locs cells slots lsA hc hs hP hS hl)
theorem J_if_eq {x : Int32} {off : Int} {tgt : Nat} (hd : decode Y.2.2.1 pc = .ok (.ifCond .eq off, 3)) (ht : (pc : Int) + off = (tgt : Int)) (kt : x = 0 → J g d Y b σ h tgt ls st Q) (kf : ¬ (x = 0) → J g d Y b σ h (pc + 3) ls st Q) : J g d Y b σ h pc ls (.int x :: st) Q := by
  intro p e R s m args below meth c Qw C H locs cells slots lsA hc hs hP hS hl
  exact lv_if_eq C.1 C.2.1 hd ht (fun z => kt z p e R s m args below meth c Qw C H locs cells slots lsA hc hs hP hS hl) (fun z => kf z p e R s m args below meth c Qw C H locs cells slots lsA hc hs hP hS hl)
theorem J_if_ne {x : Int32} {off : Int} {tgt : Nat} (hd : decode Y.2.2.1 pc = .ok (.ifCond .ne off, 3)) (ht : (pc : Int) + off = (tgt : Int)) (kt : ¬ x = 0 → J g d Y b σ h tgt ls st Q) (kf : x = 0 → J g d Y b σ h (pc + 3) ls st Q) : J g d Y b σ h pc ls (.int x :: st) Q := by
  intro p e R s m args below meth c Qw C H locs cells slots lsA hc hs hP hS hl
  exact lv_if_ne C.1 C.2.1 hd ht (fun z => kt z p e R s m args below meth c Qw C H locs cells slots lsA hc hs hP hS hl) (fun z => kf z p e R s m args below meth c Qw C H locs cells slots lsA hc hs hP hS hl)
theorem J_if_lt {x : Int32} {off : Int} {tgt : Nat} (hd : decode Y.2.2.1 pc = .ok (.ifCond .lt off, 3)) (ht : (pc : Int) + off = (tgt : Int)) (kt : x < 0 → J g d Y b σ h tgt ls st Q) (kf : ¬ (x < 0) → J g d Y b σ h (pc + 3) ls st Q) : J g d Y b σ h pc ls (.int x :: st) Q := by
  intro p e R s m args below meth c Qw C H locs cells slots lsA hc hs hP hS hl
  exact lv_if_lt C.1 C.2.1 hd ht (fun z => kt z p e R s m args below meth c Qw C H locs cells slots lsA hc hs hP hS hl) (fun z => kf z p e R s m args below meth c Qw C H locs cells slots lsA hc hs hP hS hl)
theorem J_if_ge {x : Int32} {off : Int} {tgt : Nat} (hd : decode Y.2.2.1 pc = .ok (.ifCond .ge off, 3)) (ht : (pc : Int) + off = (tgt : Int)) (kt : 0 ≤ x → J g d Y b σ h tgt ls st Q) (kf : ¬ (0 ≤ x) → J g d Y b σ h (pc + 3) ls st Q) : J g d Y b σ h pc ls (.int x :: st) Q := by
  intro p e R s m args below meth c Qw C H locs cells slots lsA hc hs hP hS hl
  exact lv_if_ge C.1 C.2.1 hd ht (fun z => kt z p e R s m args below meth c Qw C H locs cells slots lsA hc hs hP hS hl) (fun z => kf z p e R s m args below meth c Qw C H locs cells slots lsA hc hs hP hS hl)
theorem J_if_gt {x : Int32} {off : Int} {tgt : Nat} (hd : decode Y.2.2.1 pc = .ok (.ifCond .gt off, 3)) (ht : (pc : Int) + off = (tgt : Int)) (kt : 0 < x → J g d Y b σ h tgt ls st Q) (kf : ¬ (0 < x) → J g d Y b σ h (pc + 3) ls st Q) : J g d Y b σ h pc ls (.int x :: st) Q := by
  intro p e R s m args below meth c Qw C H locs cells slots lsA hc hs hP hS hl
  exact lv_if_gt C.1 C.2.1 hd ht (fun z => kt z p e R s m args below meth c Qw C H locs cells slots lsA hc hs hP hS hl) (fun z => kf z p e R s m args below meth c Qw C H locs cells slots lsA hc hs hP hS hl)
theorem J_if_le {x : Int32} {off : Int} {tgt : Nat} (hd : decode Y.2.2.1 pc = .ok (.ifCond .le off, 3)) (ht : (pc : Int) + off = (tgt : Int)) (kt : x ≤ 0 → J g d Y b σ h tgt ls st Q) (kf : ¬ (x ≤ 0) → J g d Y b σ h (pc + 3) ls st Q) : J g d Y b σ h pc ls (.int x :: st) Q := by
  intro p e R s m args below meth c Qw C H locs cells slots lsA hc hs hP hS hl
  exact lv_if_le C.1 C.2.1 hd ht (fun z => kt z p e R s m args below meth c Qw C H locs cells slots lsA hc hs hP hS hl) (fun z => kf z p e R s m args below meth c Qw C H locs cells slots lsA hc hs hP hS hl)
theorem J_icmp_eq {x y : Int32} {off : Int} {tgt : Nat} (hd : decode Y.2.2.1 pc = .ok (.if_icmp .eq off, 3)) (ht : (pc : Int) + off = (tgt : Int)) (kt : x = y → J g d Y b σ h tgt ls st Q) (kf : ¬ (x = y) → J g d Y b σ h (pc + 3) ls st Q) : J g d Y b σ h pc ls (.int y :: .int x :: st) Q := by
  intro p e R s m args below meth c Qw C H locs cells slots lsA hc hs hP hS hl
  exact lv_icmp_eq C.1 C.2.1 hd ht (fun z => kt z p e R s m args below meth c Qw C H locs cells slots lsA hc hs hP hS hl) (fun z => kf z p e R s m args below meth c Qw C H locs cells slots lsA hc hs hP hS hl)
theorem J_icmp_ne {x y : Int32} {off : Int} {tgt : Nat} (hd : decode Y.2.2.1 pc = .ok (.if_icmp .ne off, 3)) (ht : (pc : Int) + off = (tgt : Int)) (kt : ¬ x = y → J g d Y b σ h tgt ls st Q) (kf : x = y → J g d Y b σ h (pc + 3) ls st Q) : J g d Y b σ h pc ls (.int y :: .int x :: st) Q := by
  intro p e R s m args below meth c Qw C H locs cells slots lsA hc hs hP hS hl
  exact lv_icmp_ne C.1 C.2.1 hd ht (fun z => kt z p e R s m args below meth c Qw C H locs cells slots lsA hc hs hP hS hl) (fun z => kf z p e R s m args below meth c Qw C H locs cells slots lsA hc hs hP hS hl)
theorem J_icmp_lt {x y : Int32} {off : Int} {tgt : Nat} (hd : decode Y.2.2.1 pc = .ok (.if_icmp .lt off, 3)) (ht : (pc : Int) + off = (tgt : Int)) (kt : x < y → J g d Y b σ h tgt ls st Q) (kf : ¬ (x < y) → J g d Y b σ h (pc + 3) ls st Q) : J g d Y b σ h pc ls (.int y :: .int x :: st) Q := by
  intro p e R s m args below meth c Qw C H locs cells slots lsA hc hs hP hS hl
  exact lv_icmp_lt C.1 C.2.1 hd ht (fun z => kt z p e R s m args below meth c Qw C H locs cells slots lsA hc hs hP hS hl) (fun z => kf z p e R s m args below meth c Qw C H locs cells slots lsA hc hs hP hS hl)
theorem J_icmp_ge {x y : Int32} {off : Int} {tgt : Nat} (hd : decode Y.2.2.1 pc = .ok (.if_icmp .ge off, 3)) (ht : (pc : Int) + off = (tgt : Int)) (kt : y ≤ x → J g d Y b σ h tgt ls st Q) (kf : ¬ (y ≤ x) → J g d Y b σ h (pc + 3) ls st Q) : J g d Y b σ h pc ls (.int y :: .int x :: st) Q := by
  intro p e R s m args below meth c Qw C H locs cells slots lsA hc hs hP hS hl
  exact lv_icmp_ge C.1 C.2.1 hd ht (fun z => kt z p e R s m args below meth c Qw C H locs cells slots lsA hc hs hP hS hl) (fun z => kf z p e R s m args below meth c Qw C H locs cells slots lsA hc hs hP hS hl)
theorem J_icmp_gt {x y : Int32} {off : Int} {tgt : Nat} (hd : decode Y.2.2.1 pc = .ok (.if_icmp .gt off, 3)) (ht : (pc : Int) + off = (tgt : Int)) (kt : y < x → J g d Y b σ h tgt ls st Q) (kf : ¬ (y < x) → J g d Y b σ h (pc + 3) ls st Q) : J g d Y b σ h pc ls (.int y :: .int x :: st) Q := by
  intro p e R s m args below meth c Qw C H locs cells slots lsA hc hs hP hS hl
  exact lv_icmp_gt C.1 C.2.1 hd ht (fun z => kt z p e R s m args below meth c Qw C H locs cells slots lsA hc hs hP hS hl) (fun z => kf z p e R s m args below meth c Qw C H locs cells slots lsA hc hs hP hS hl)
theorem J_icmp_le {x y : Int32} {off : Int} {tgt : Nat} (hd : decode Y.2.2.1 pc = .ok (.if_icmp .le off, 3)) (ht : (pc : Int) + off = (tgt : Int)) (kt : x ≤ y → J g d Y b σ h tgt ls st Q) (kf : ¬ (x ≤ y) → J g d Y b σ h (pc + 3) ls st Q) : J g d Y b σ h pc ls (.int y :: .int x :: st) Q := by
  intro p e R s m args below meth c Qw C H locs cells slots lsA hc hs hP hS hl
  exact lv_icmp_le C.1 C.2.1 hd ht (fun z => kt z p e R s m args below meth c Qw C H locs cells slots lsA hc hs hP hS hl) (fun z => kf z p e R s m args below meth c Qw C H locs cells slots lsA hc hs hP hS hl)
theorem J_goto {off : Int} {tgt : Nat} (hd : decode Y.2.2.1 pc = .ok (.goto off, 3)) (ht : (pc : Int) + off = (tgt : Int)) (k : J g d Y b σ h tgt ls st Q) : J g d Y b σ h pc ls st Q := by
  intro p e R s m args below meth c Qw C H locs cells slots lsA hc hs hP hS hl
  exact lv_goto C.1 C.2.1 hd ht (k p e R s m args below meth c Qw C H locs cells slots lsA hc hs hP hS hl)
theorem J_tableOut {dflt lo hi : Int} {offs : Array Int} {len : Nat} {x : Int32} {tgt : Nat} (hd : decode Y.2.2.1 pc = .ok (.tableswitch dflt lo hi offs, len)) (hx : x.toInt < lo ∨ hi < x.toInt) (ht : (pc : Int) + dflt = (tgt : Int)) (k : J g d Y b σ h tgt ls st Q) : J g d Y b σ h pc ls (.int x :: st) Q := by
  intro p e R s m args below meth c Qw C H locs cells slots lsA hc hs hP hS hl
  exact lv_tableOut C.1 C.2.1 hd hx ht (k p e R s m args below meth c Qw C H locs cells slots lsA hc hs hP hS hl)
theorem J_tableIn {dflt lo hi : Int} {offs : Array Int} {len : Nat} {x : Int32} {off : Int} {tgt : Nat} (hd : decode Y.2.2.1 pc = .ok (.tableswitch dflt lo hi offs, len)) (h1 : ¬ x.toInt < lo) (h2 : ¬ hi < x.toInt) (ho : offs[(x.toInt - lo).toNat]? = some off) (ht : (pc : Int) + off = (tgt : Int)) (k : J g d Y b σ h tgt ls st Q) : J g d Y b σ h pc ls (.int x :: st) Q := by
  intro p e R s m args below meth c Qw C H locs cells slots lsA hc hs hP hS hl
  exact lv_tableIn C.1 C.2.1 hd h1 h2 ho ht (k p e R s m args below meth c Qw C H locs cells slots lsA hc hs hP hS hl)
theorem J_lookup {dflt : Int} {ps : Array (Int × Int)} {len : Nat} {x : Int32} {off : Int} {tgt : Nat} (hd : decode Y.2.2.1 pc = .ok (.lookupswitch dflt ps, len)) (hp : (ps.toList.zip (ps.toList.drop 1)).all (fun (a, next) => a.1 < next.1) = true) (ho : Op.lookupswitch.offset ps.toList dflt x.toInt = off) (ht : (pc : Int) + off = (tgt : Int)) (k : J g d Y b σ h tgt ls st Q) : J g d Y b σ h pc ls (.int x :: st) Q := by
  intro p e R s m args below meth c Qw C H locs cells slots lsA hc hs hP hS hl
  exact lv_lookup C.1 C.2.1 hd hp ho ht (k p e R s m args below meth c Qw C H locs cells slots lsA hc hs hP hS hl)
theorem J_ldc {index : Nat} {v : Int32} (hd : decode Y.2.2.1 pc = .ok (.ldc index, 2)) (hw : Cond.constant Y.1 index v ∈ jB) (k : J g d Y b σ h (pc + 2) ls (.int v :: st) Q) : J g d Y b σ h pc ls st Q := by
  intro p e R s m args below meth c Qw C H locs cells slots lsA hc hs hP hS hl
  exact lv_ldc C.1 C.2.1 C.2.2.2.1 (C.2.2.2.2.1 _ hw) hd (k p e R s m args below meth c Qw C H locs cells slots lsA hc hs hP hS hl)
theorem J_ldcw {index : Nat} {v : Int32} (hd : decode Y.2.2.1 pc = .ok (.ldc_w index, 3)) (hw : Cond.constant Y.1 index v ∈ jB) (k : J g d Y b σ h (pc + 3) ls (.int v :: st) Q) : J g d Y b σ h pc ls st Q := by
  intro p e R s m args below meth c Qw C H locs cells slots lsA hc hs hP hS hl
  exact lv_ldcw C.1 C.2.1 C.2.2.2.1 (C.2.2.2.2.1 _ hw) hd (k p e R s m args below meth c Qw C H locs cells slots lsA hc hs hP hS hl)
theorem J_ldc2 {index : Nat} {v : Int64} (hd : decode Y.2.2.1 pc = .ok (.ldc2_w index, 3)) (hw : Cond.constantLong Y.1 index v ∈ jB) (k : J g d Y b σ h (pc + 3) ls (.long v :: st) Q) : J g d Y b σ h pc ls st Q := by
  intro p e R s m args below meth c Qw C H locs cells slots lsA hc hs hP hS hl
  exact lv_ldc2 C.1 C.2.1 C.2.2.2.1 (C.2.2.2.2.1 _ hw) hd (k p e R s m args below meth c Qw C H locs cells slots lsA hc hs hP hS hl)
theorem J_ret (hd : decode Y.2.2.1 pc = .ok (.return_, 1)) (hr : Y.2.2.2.2 = none) (hq : Q none σ h) : J g d Y b σ h pc ls [] Q := by
  intro p e R s m args below meth c Qw C H locs cells slots lsA hc hs hP hS hl
  exact C.2.2.2.2.2.2.2.2.2.2 pc lsA none σ h H locs cells slots ⟨hd, hr⟩ hq hP hS (by omega) (by omega)
theorem J_iret {x : Int32} (hd : decode Y.2.2.1 pc = .ok (.ireturn, 1)) (hr : Y.2.2.2.2 = some .int) (hq : Q (some (.int x)) σ h) : J g d Y b σ h pc ls [.int x] Q := by
  intro p e R s m args below meth c Qw C H locs cells slots lsA hc hs hP hS hl
  exact C.2.2.2.2.2.2.2.2.2.2 pc lsA (some (.int x)) σ h H locs cells slots ⟨hd, .int, hr, rfl⟩ hq hP hS (by omega) (by omega)
theorem J_zret {x : Int32} (hd : decode Y.2.2.1 pc = .ok (.ireturn, 1)) (hr : Y.2.2.2.2 = some .boolean) (hx : narrow .boolean (.int x) = .int x) (hq : Q (some (.int x)) σ h) : J g d Y b σ h pc ls [.int x] Q := by
  intro p e R s m args below meth c Qw C H locs cells slots lsA hc hs hP hS hl
  exact C.2.2.2.2.2.2.2.2.2.2 pc lsA (some (.int x)) σ h H locs cells slots ⟨hd, .boolean, hr, hx⟩ hq hP hS (by omega) (by omega)
theorem J_tret {x : Int32} {ty : FieldType} (hd : decode Y.2.2.1 pc = .ok (.ireturn, 1)) (hr : Y.2.2.2.2 = some ty) (hx : narrow ty (.int x) = .int x) (hq : Q (some (.int x)) σ h) : J g d Y b σ h pc ls [.int x] Q := by
  intro p e R s m args below meth c Qw C H locs cells slots lsA hc hs hP hS hl
  exact C.2.2.2.2.2.2.2.2.2.2 pc lsA (some (.int x)) σ h H locs cells slots ⟨hd, ty, hr, hx⟩ hq hP hS (by omega) (by omega)
theorem J_lret {x : Int64} (hd : decode Y.2.2.1 pc = .ok (.lreturn, 1)) (hr : Y.2.2.2.2 = some .long) (hq : Q (some (.long x)) σ h) : J g d Y b σ h pc ls [.long x] Q := by
  intro p e R s m args below meth c Qw C H locs cells slots lsA hc hs hP hS hl
  exact C.2.2.2.2.2.2.2.2.2.2 pc lsA (some (.long x)) σ h H locs cells slots ⟨hd, hr⟩ hq hP hS (by omega) (by omega)
theorem J_aret {x : Nat} {n : String} (hd : decode Y.2.2.1 pc = .ok (.areturn, 1)) (hr : Y.2.2.2.2 = some (.object n)) (hq : Q (some (.ref x)) σ h) : J g d Y b σ h pc ls [.ref x] Q := by
  intro p e R s m args below meth c Qw C H locs cells slots lsA hc hs hP hS hl
  exact C.2.2.2.2.2.2.2.2.2.2 pc lsA (some (.ref x)) σ h H locs cells slots ⟨hd, n, hr⟩ hq hP hS (by omega) (by omega)
theorem J_ls {ls' : List (Nat × Value)} (hl : j_sub ls ls') (k : J g d Y b σ h pc ls' st Q) : J g d Y b σ h pc ls st Q := by
  intro p e R s m args below meth c Qw C H locs cells slots lsA hc hs hP hS hl0
  exact k p e R s m args below meth c Qw C H locs cells slots lsA hc hs hP hS (j_less hl0 hl)
end JR
end
section
/-! RULES: fields and arrays -/
def j_F (own : String) (idx ci k : Nat) (ty : FieldType) (fin nst : Bool) : Prop := ∃ (C : String) (T : u_T) (N : Nat), vwCl[ci]? = some (C, T, N) ∧ k < N ∧ (T k).1 = C ∧ (T k).2.2.2 = fin ∧ parseFieldDescriptor (T k).2.2.1 = some ty ∧ (∀ w ∈ u_ws C T N, w ∈ jB) ∧
  (∃ ty0 : Nat → FieldType, (∀ k, k < N → parseFieldDescriptor (T k).2.2.1 = some (ty0 k)) ∧ ∀ a, a < N → ∀ b, b < N → a ≠ b → (T a).2.1 ≠ (T b).2.1) ∧
  ((nst = false ∧ Cond.fieldLink own idx C (T k).2.1 (T k).2.2.1 ∈ jB) ∨ (nst = true ∧ Cond.fieldLinkNest own idx C (T k).2.1 (T k).2.2.1 "RainCover" ∈ jN))
theorem j_up_ne {h : jH} {a i : Nat} {x : Int32} : ∀ b, b ≠ a → j_up h a i x b = h b := fun b hb => by
  funext j
  simp [j_up, hb]
theorem j_up_at {h : jH} {a i : Nat} {x : Int32} : j_up h a i x a = upd (h a) i x := by
  funext j
  simp [j_up, upd]
theorem j_row_ne {h : jH} {a : Nat} {f : Nat → Int32} : ∀ b, b ≠ a → j_row h a f b = h b := fun b hb => by
  funext j
  simp [j_row, hb]
theorem j_row_at {h : jH} {a : Nat} {f : Nat → Int32} : j_row h a f a = f := by
  funext j
  simp [j_row]
theorem j_fs_at {ad : Nat → Nat} {f : Nat → Int32} {fs : List (Option (Option Nat))} {k : Nat} {x : Option (Option Nat)} (hf : fs[k]? = some x) : (fs.mapIdx (j_f ad f))[k]? = some (j_f ad f k x) := by
  rw [List.getElem?_mapIdx, hf]
  rfl
theorem j_fs_set {ad : Nat → Nat} {h : jH} {a : Nat} {fs : List (Option (Option Nat))} {k : Nat} {x : Int32} (hf : fs[k]? = some none) : (fs.mapIdx (j_f ad (h a))).set k (.int x) = fs.mapIdx (j_f ad (j_up h a k x a)) := by
  apply List.ext_getElem?
  intro j
  have hl : k < fs.length := (List.getElem?_eq_some_iff.mp hf).1
  by_cases hj : j = k
  · subst hj
    rw [List.getElem?_set_self (by simpa using hl), List.getElem?_mapIdx, hf]
    simp [j_f, j_up]
  · rw [List.getElem?_set_ne (fun z => hj z.symm), List.getElem?_mapIdx, List.getElem?_mapIdx]
    cases e : fs[j]? with
    | none => rfl
    | some y => cases y <;> simp [j_f, j_up, hj]
theorem j_fs_setR {ad : Nat → Nat} {f : Nat → Int32} {fs : List (Option (Option Nat))} {k r : Nat} (hl : k < fs.length) : (fs.mapIdx (j_f ad f)).set k (.ref (ad r)) = (fs.set k (some (some r))).mapIdx (j_f ad f) := by
  apply List.ext_getElem?
  intro j
  by_cases hj : j = k
  · subst hj
    rw [List.getElem?_set_self (by simpa using hl), List.getElem?_mapIdx, List.getElem?_set_self hl]
    rfl
  · rw [List.getElem?_set_ne (fun z => hj z.symm), List.getElem?_mapIdx, List.getElem?_mapIdx, List.getElem?_set_ne (fun z => hj z.symm)]
section JH
variable {g : jG} {d : Nat} {Y : jY} {b : Nat × Nat} {σ : List jD} {h : jH} {pc : Nat} {ls : List (Nat × Value)} {st : List Value} {Q : jQ}
theorem J_getV {ci k a idx : Nat} {ty : FieldType} {fin nst : Bool} {fs : List (Option (Option Nat))} {x : Option (Option Nat)} {v : Value} (hd : decode Y.2.2.1 pc = .ok (.getfield idx, 3)) (hF : j_F Y.1 idx ci k ty fin nst) (hs : σ[a]? = some (.inr (.inr (ci, fs)))) (hf : fs[k]? = some x) (hv : j_f g.2.2.2.1 (h a) k x = j_v g.2.2.2.1 v) (kk : J g d Y b σ h (pc + 3) ls (v :: st) Q) : J g d Y b σ h pc ls (.ref a :: st) Q := by
  intro p e R s m args below meth c Qw C H locs cells slots lsA hc hs' hP hS hl
  obtain ⟨Cn, T, N, h1, h2, h3, -, -, h5, -, h6⟩ := hF
  have he := j_w_at (g := g) (h := h) hs
  have hv2 : (fs.mapIdx (j_f g.2.2.2.1 (h a)))[k]? = some (j_v g.2.2.2.1 v) := (j_fs_at hf).trans (congrArg some hv)
  have kk' := kk p e R s m args below meth c Qw C H locs cells slots lsA hc hs' hP hS hl
  rcases h6 with ⟨-, h6⟩ | ⟨-, h6⟩
  · exact va_get (D := g.2.1) (Ts := jB) C.1 C.2.1 C.2.2.2.2.1 h5 C.2.2.2.1 C.2.2.2.2.2.1.1 hP.2.2 a he h1 k h2 (C.2.2.2.2.1 _ h6) (fun y hy => by rw [h3] at hy; exact hy) hv2 hd kk'
  · exact va_getN (D := g.2.1) (Ts := jB) C.1 C.2.1 C.2.2.2.2.1 h5 C.2.2.2.1 C.2.2.2.2.2.1.1 hP.2.2 a he h1 k h2 (va_Nw.use rfl (C.2.2.2.2.2.1.2.2.1 _ h6)) (fun y hy => by rw [h3] at hy; exact hy) hv2 hd kk'
theorem J_getI {ci k a idx : Nat} {ty : FieldType} {fin nst : Bool} {fs : List (Option (Option Nat))} {x : Int32} (hd : decode Y.2.2.1 pc = .ok (.getfield idx, 3)) (hF : j_F Y.1 idx ci k ty fin nst) (hs : σ[a]? = some (.inr (.inr (ci, fs)))) (hf : fs[k]? = some none) (hx : h a k = x) (kk : J g d Y b σ h (pc + 3) ls (.int x :: st) Q) : J g d Y b σ h pc ls (.ref a :: st) Q :=
  J_getV (v := .int x) hd hF hs hf (by rw [← hx]; rfl) kk
theorem J_getR {ci k a idx r : Nat} {ty : FieldType} {fin nst : Bool} {fs : List (Option (Option Nat))} (hd : decode Y.2.2.1 pc = .ok (.getfield idx, 3)) (hF : j_F Y.1 idx ci k ty fin nst) (hs : σ[a]? = some (.inr (.inr (ci, fs)))) (hf : fs[k]? = some (some (some r))) (kk : J g d Y b σ h (pc + 3) ls (.ref r :: st) Q) : J g d Y b σ h pc ls (.ref a :: st) Q :=
  J_getV (v := .ref r) hd hF hs hf rfl kk
theorem j_put_cell {d' : jD} {h' : jH} {a : Nat} {dd : jD} {H H1 : Heap} (ha : ∀ k, k < 100000 → g.2.2.2.1 k = g.2.2.2.2 + k) (hP : j_P g σ h H) (e : σ[a]? = some dd) (ho : ∀ b, b ≠ a → h' b = h b) (hz : H1.size = H.size) (hat : va_at g.2.1 vwCl (g.2.2.2.1 a, j_e g d' (h' a)) H1) (oq : ∀ q : Nat, q ≠ g.2.2.2.1 a → H1[q]? = H[q]?) : j_P g (σ.set a d') h' H1 := by
  refine ⟨by rw [List.length_set]; exact hP.1, by rw [List.length_set, hz]; exact hP.2.1, ?_⟩
  rw [← j_w_set e ho]
  exact hP.2.2.set (j_D (h := h) ha hP.1) (j_w_at e) hat oq
theorem j_put_S {H H1 : Heap} {s : State} {locs : List Loc} {a k : Nat} {dd : jD} (ha : ∀ k, k < 100000 → g.2.2.2.1 k = g.2.2.2.2 + k) (hP : j_P g σ h H) (e : σ[a]? = some dd) (hS : va_S (j_A g) s.heap H locs) (hz : H1.size = H.size) (oq : ∀ q : Nat, q ≠ g.2.2.2.1 a → H1[q]? = H[q]?) : va_S (j_A g) s.heap H1 (locs ++ [⟨g.2.2.2.1 a, k⟩]) :=
  hS.put hz oq ((j_D (g := g) (σ := σ) (h := h) ha hP.1).2 a _ (j_w_at e))
theorem J_putV {nst : Bool} {ci k a idx : Nat} {ty : FieldType} {fs : List (Option (Option Nat))} {x : Int32} (hd : decode Y.2.2.1 pc = .ok (.putfield idx, 3)) (hF : j_F Y.1 idx ci k ty false nst) (hs : σ[a]? = some (.inr (.inr (ci, fs)))) (hf : fs[k]? = some none) (hn : narrow ty (.int x) = .int x) (hfit : fits ty (.int x) = true) (kk : J g d Y b σ (j_up h a k x) (pc + 3) ls st Q) : J g d Y b σ h pc ls (.int x :: .ref a :: st) Q := by
  intro p e R s m args below meth c Qw C H locs cells slots lsA hc hs' hP hS hl
  obtain ⟨Cn, T, N, h1, h2, h3, h4, hty, h5, ⟨ty0, t1, t2⟩, h6⟩ := hF
  have hE := C.2.2.2.2.2.1
  have hts := C.2.2.2.2.1
  obtain ⟨r, r1, cell, q1, q2, q3, q4⟩ := hP.2.2 a _ (j_w_at (g := g) (h := h) hs)
  have hr : r = (Cn, T, N) := Option.some.inj (r1.symm.trans h1)
  subst hr
  have hap := va_apart (own := Y.1) hts h5 ty0 t1 t2 hE.1 h1
  obtain ⟨hSl, hfc, kC, hkC, hkind⟩ := hE.1.1 ci _ h1
  obtain ⟨cf, kf, fi, f, hi, hsl⟩ := hSl k h2
  have hlay := hts _ (h5 _ (u_in_lay h2))
  unfold u_lay at hlay
  rw [if_neg (by rw [h4]; decide)] at hlay
  have hst := (u_facts hfc hkC (u_lays hts h5 h2) hi).1
  have hsd := u_store hfc hkC hkind hlay hi hty hn hfit
  have hkl : k < (fs.mapIdx (j_f g.2.2.2.1 (h a))).length := by
    have := (List.getElem?_eq_some_iff.mp hf).1
    simpa using this
  have hsame : s.fieldFound? Cn (T k).2.1 (T k).2.2.1 = some (cf, kf, fi, f) := by rw [h3] at hi; exact hi
  have go : ∀ H' : Heap, H'[g.2.2.2.1 a]? = some (cell.setSlot f.slot (.int x)) → H'.size = H.size → (∀ q, q ≠ g.2.2.2.1 a → H'[q]? = H[q]?) → W p g.1 e R s m args below meth c H' (locs ++ [⟨g.2.2.2.1 a, f.slot⟩]) cells slots Qw (F0 m (pc + 3) lsA (st.map (j_v g.2.2.2.1))) := fun H' e1 e2 e3 => by
    have hP1 : j_P g (σ.set a (.inr (.inr (ci, fs)))) (j_up h a k x) H' := by
      refine j_put_cell hE.2.1 hP hs j_up_ne e2 ?_ e3
      show va_at _ _ (_, .inr (ci, fs.mapIdx (j_f g.2.2.2.1 (j_up h a k x a)))) _
      rw [← j_fs_set hf]
      rw [hsl] at e1
      exact ⟨_, h1, t_OB.to (V := updV (vp_V (fs.mapIdx (j_f g.2.2.2.1 (h a)))) k (.int x)) ⟨_, e1, q2, q3, t_set q4 hap h2 _⟩ (fun j _ => vp_updV_set hkl _ j)⟩
    rw [j_set_same hs] at hP1
    exact kk p e R s m args below meth c Qw C H' _ cells slots lsA hc hs' hP1 (j_put_S hE.2.1 hP hs hS e2 e3) hl
  rcases h6 with ⟨-, h6⟩ | ⟨-, h6⟩
  · exact W.putK C.1 C.2.1 (f := f) ⟨C.2.2.2.1, hts _ h6, ⟨_, _, _, hsame⟩, hst⟩ (by rw [q2]; exact hsd) q1 q3 (by rw [hsl]; exact k2_hasslot (q4 k h2)) rfl rfl hd go
  · exact va_WputK C.1 C.2.1 (f := f) C.2.2.2.1 (va_Nw.use rfl (hE.2.2.1 _ h6)) hsame hst (by rw [q2]; exact hsd) q1 q3 (by rw [hsl]; exact k2_hasslot (q4 k h2)) rfl rfl hd go
theorem J_putI {nst : Bool} {ci k a idx : Nat} {fs : List (Option (Option Nat))} {x : Int32} (hd : decode Y.2.2.1 pc = .ok (.putfield idx, 3)) (hF : j_F Y.1 idx ci k .int false nst) (hs : σ[a]? = some (.inr (.inr (ci, fs)))) (hf : fs[k]? = some none) (kk : J g d Y b σ (j_up h a k x) (pc + 3) ls st Q) : J g d Y b σ h pc ls (.int x :: .ref a :: st) Q := J_putV hd hF hs hf rfl rfl kk
theorem J_putZ {nst : Bool} {ci k a idx : Nat} {fs : List (Option (Option Nat))} {x : Int32} (hd : decode Y.2.2.1 pc = .ok (.putfield idx, 3)) (hF : j_F Y.1 idx ci k .boolean false nst) (hs : σ[a]? = some (.inr (.inr (ci, fs)))) (hf : fs[k]? = some none) (hx : x = 0 ∨ x = 1) (kk : J g d Y b σ (j_up h a k x) (pc + 3) ls st Q) : J g d Y b σ h pc ls (.int x :: .ref a :: st) Q := J_putV hd hF hs hf (by rcases hx with rfl | rfl <;> decide) (by rcases hx with rfl | rfl <;> decide) kk
theorem J_putF {ci k a idx r : Nat} {ty : FieldType} {fs : List (Option (Option Nat))} (hd : decode Y.2.2.1 pc = .ok (.putfield idx, 3)) (hF : j_F Y.1 idx ci k ty true false) (ho : ∃ T N, vwCl[ci]? = some (Y.1, T, N)) (hi : Y.2.1.name = "<init>") (hr : ty.isReference = true) (hs : σ[a]? = some (.inr (.inr (ci, fs)))) (hf : k < fs.length) (kk : J g d Y b (σ.set a (.inr (.inr (ci, fs.set k (some (some r)))))) h (pc + 3) ls st Q) : J g d Y b σ h pc ls (.ref r :: .ref a :: st) Q := by
  intro p e R s m args below meth c Qw C H locs cells slots lsA hc hs' hP hS hl
  obtain ⟨Cn, T, N, h1, h2, h3, h4, hty, h5, ⟨ty0, t1, t2⟩, h6⟩ := hF
  obtain ⟨T', N', ho⟩ := ho
  have hoc : Cn = Y.1 := by
    have := Option.some.inj (h1.symm.trans ho)
    exact congrArg Prod.fst this
  have hE := C.2.2.2.2.2.1
  have hts := C.2.2.2.2.1
  obtain ⟨rr, r1, cell, q1, q2, q3, q4⟩ := hP.2.2 a _ (j_w_at (g := g) (h := h) hs)
  have hrr : rr = (Cn, T, N) := Option.some.inj (r1.symm.trans h1)
  subst hrr
  have hap := va_apart (own := Y.1) hts h5 ty0 t1 t2 hE.1 h1
  obtain ⟨hSl, hfc, kC, hkC, hkind⟩ := hE.1.1 ci _ h1
  obtain ⟨cf, kf, fi, f, hi', hsl⟩ := hSl k h2
  have hlay := hts _ (h5 _ (u_in_lay h2))
  unfold u_lay at hlay
  rw [if_pos h4] at hlay
  have hst := (u_facts hfc hkC (u_lays hts h5 h2) hi').1
  have hcf : m.cls = cf := by
    obtain ⟨_, _, c', _, _, _, -, -, hf', -, -, -, hown2, -⟩ := Cond.laysFinal_spec hlay
    have e1 : c' = cf := by have := hi'.symm.trans hf'; simp at this; exact this.1.symm
    rw [h3, hoc] at hown2
    rw [← e1]; exact Option.some.inj (C.2.2.2.1.symm.trans hown2)
  have hnf : narrow ty (.ref (g.2.2.2.1 r)) = .ref (g.2.2.2.1 r) ∧ fits ty (.ref (g.2.2.2.1 r)) = true := by
    cases ty <;> first | exact ⟨rfl, rfl⟩ | cases hr
  have hsd := u_fits hfc hkC hkind (Or.inr hlay) hi' hty hnf.1 hnf.2
  have hkl : k < (fs.mapIdx (j_f g.2.2.2.1 (h a))).length := by simpa using hf
  have hsame : s.fieldFound? Cn (T k).2.1 (T k).2.2.1 = some (cf, kf, fi, f) := by rw [h3] at hi'; exact hi'
  have hl6 : Cond.fieldLink Y.1 idx Cn (T k).2.1 (T k).2.2.1 ∈ jB ∨ False := by
    rcases h6 with ⟨-, h6⟩ | ⟨z, -⟩
    · exact Or.inl h6
    · cases z
  rcases hl6 with h6 | h6
  · refine W.putFinK C.1 C.2.1 C.2.2.2.1 (hts _ h6) hsame hst hcf (C.2.2.2.2.2.2.2.2.2.1.trans hi) (by rw [q2]; exact hsd) q1 q3 (by rw [hsl]; exact k2_hasslot (q4 k h2)) rfl rfl hd fun H' e1 e2 e3 => ?_
    have hP1 : j_P g (σ.set a (.inr (.inr (ci, fs.set k (some (some r)))))) h H' := by
      refine j_put_cell hE.2.1 hP hs (fun _ _ => rfl) e2 ?_ e3
      show va_at _ _ (_, .inr (ci, (fs.set k (some (some r))).mapIdx (j_f g.2.2.2.1 (h a)))) _
      rw [← j_fs_setR hf]
      rw [hsl] at e1
      exact ⟨_, h1, t_OB.to (V := updV (vp_V (fs.mapIdx (j_f g.2.2.2.1 (h a)))) k (.ref (g.2.2.2.1 r))) ⟨_, e1, q2, q3, t_set q4 hap h2 _⟩ (fun j _ => vp_updV_set hkl _ j)⟩
    exact kk p e R s m args below meth c Qw C H' _ cells slots lsA hc hs' hP1 (j_put_S hE.2.1 hP hs hS e2 e3) hl
  · exact h6.elim
/-- arrays -/
theorem j_in {k n : Nat} (hk : k < n) (hn : n < 2147483648) : ¬ (nI k < 0 ∨ n ≤ (nI k).toNatClampNeg) := vp_in_nI hk hn
theorem J_iald {a k n : Nat} {i x : Int32} (hd : decode Y.2.2.1 pc = .ok (.iaload, 1)) (hs : σ[a]? = some (.inl (0, n))) (hi : i = nI k) (hk : k < n) (hx : h a k = x) (hn : n < 2147483648) (kk : J g d Y b σ h (pc + 1) ls (.int x :: st) Q) : J g d Y b σ h pc ls (.int i :: .ref a :: st) Q := by
  intro p e R s m args below meth c Qw C H locs cells slots lsA hc hs' hP hS hl
  subst hi
  subst hx
  have hcl : (nI k).toNatClampNeg = k := nI_clamp (by omega)
  refine va_iald (D := g.2.1) C.1 C.2.1 C.2.2.2.2.2.1.1 hP.2.2 a 0 (j_w_at (g := g) (h := h) hs) rfl (j_in hk hn) hd ?_
  rw [hcl]
  exact kk p e R s m args below meth c Qw C H locs cells slots lsA hc hs' hP hS hl
theorem J_zald {a k n : Nat} {i x : Int32} (hd : decode Y.2.2.1 pc = .ok (.baload, 1)) (hs : σ[a]? = some (.inl (1, n))) (hi : i = nI k) (hk : k < n) (hx : h a k = x) (hn : n < 2147483648) (kk : J g d Y b σ h (pc + 1) ls (.int x :: st) Q) : J g d Y b σ h pc ls (.int i :: .ref a :: st) Q := by
  intro p e R s m args below meth c Qw C H locs cells slots lsA hc hs' hP hS hl
  subst hi
  subst hx
  have hcl : (nI k).toNatClampNeg = k := nI_clamp (by omega)
  refine va_zald (D := g.2.1) C.1 C.2.1 C.2.2.2.2.2.1.1 hP.2.2 a 1 (j_w_at (g := g) (h := h) hs) rfl (j_in hk hn) hd ?_
  rw [hcl]
  exact kk p e R s m args below meth c Qw C H locs cells slots lsA hc hs' hP hS hl
theorem j_arr_up {cA : ClassId} {n k : Nat} {f : Nat → Int32} {x : Int32} : (vp_cell cA (n, .inl f)).setSlot k (.int x) = vp_cell cA (n, .inl (upd f k x)) := by
  rw [vp_cell_i, vp_cell_i, arrV_store]
  congr 1
  funext q
  by_cases hq : q = k
  · subst hq
    simp [updV, upd]
  · simp [updV, upd, hq]
theorem J_iast {a k n : Nat} {i x : Int32} (hd : decode Y.2.2.1 pc = .ok (.iastore, 1)) (hs : σ[a]? = some (.inl (0, n))) (hi : i = nI k) (hk : k < n) (hn : n < 2147483648) (kk : J g d Y b σ (j_up h a k x) (pc + 1) ls st Q) : J g d Y b σ h pc ls (.int x :: .int i :: .ref a :: st) Q := by
  intro p e R s m args below meth c Qw C H locs cells slots lsA hc hs' hP hS hl
  subst hi
  have hE := C.2.2.2.2.2.1
  have hcl : (nI k).toNatClampNeg = k := nI_clamp (by omega)
  have hcell : H[g.2.2.2.1 a]? = some (vp_cell (g.2.2.1 0) (n, .inl (h a))) := hP.2.2 a _ (j_w_at (g := g) (h := h) hs)
  refine W.iast C.1 C.2.1 hcell ((hE.1.2 0 _ rfl).1 n (fun j => .int (h a j))) (fun q => by cases q) (by show ¬ (nI k < 0 ∨ (arrV _ _ _).slots.size ≤ _); rw [arrV_size]; exact j_in hk hn) rfl rfl hd fun H1 e1 z oq => ?_
  rw [hcl, j_arr_up] at e1
  have hP1 : j_P g (σ.set a (.inl (0, n))) (j_up h a k x) H1 := by
    refine j_put_cell hE.2.1 hP hs j_up_ne z ?_ oq
    rw [j_up_at]
    exact e1
  rw [j_set_same hs] at hP1
  exact kk p e R s m args below meth c Qw C H1 _ cells slots lsA hc hs' hP1 (j_put_S hE.2.1 hP hs hS z oq) hl
theorem J_zast {a k n : Nat} {i x : Int32} (hd : decode Y.2.2.1 pc = .ok (.bastore, 1)) (hs : σ[a]? = some (.inl (1, n))) (hi : i = nI k) (hk : k < n) (hx : x = 0 ∨ x = 1) (hn : n < 2147483648) (kk : J g d Y b σ (j_up h a k x) (pc + 1) ls st Q) : J g d Y b σ h pc ls (.int x :: .int i :: .ref a :: st) Q := by
  intro p e R s m args below meth c Qw C H locs cells slots lsA hc hs' hP hS hl
  subst hi
  have hE := C.2.2.2.2.2.1
  have hcl : (nI k).toNatClampNeg = k := nI_clamp (by omega)
  have hcell : H[g.2.2.2.1 a]? = some (vp_cell (g.2.2.1 1) (n, .inl (h a))) := hP.2.2 a _ (j_w_at (g := g) (h := h) hs)
  refine W.zast C.1 C.2.1 hcell ((hE.1.2 1 _ rfl).1 n (fun j => .int (h a j))) (fun q => by cases q) (by show ¬ (nI k < 0 ∨ (arrV _ _ _).slots.size ≤ _); rw [arrV_size]; exact j_in hk hn) rfl rfl hd fun H1 e1 z oq => ?_
  have hnar : narrow .boolean (.int x) = .int x := by rcases hx with rfl | rfl <;> decide
  rw [hcl] at e1
  have e2 : H1[g.2.2.2.1 a]? = some ((vp_cell (g.2.2.1 1) (n, .inl (h a))).setSlot k (.int x)) := by
    rw [e1]
    first | rw [hnar] | (congr 2; rcases hx with rfl | rfl <;> decide)
  rw [j_arr_up] at e2
  have hP1 : j_P g (σ.set a (.inl (1, n))) (j_up h a k x) H1 := by
    refine j_put_cell hE.2.1 hP hs j_up_ne z ?_ oq
    rw [j_up_at]
    exact e2
  rw [j_set_same hs] at hP1
  exact kk p e R s m args below meth c Qw C H1 _ cells slots lsA hc hs' hP1 (j_put_S hE.2.1 hP hs hS z oq) hl
theorem J_aald {a k κ r : Nat} {rs : List (Option Nat)} {i : Int32} (hd : decode Y.2.2.1 pc = .ok (.aaload, 1)) (hs : σ[a]? = some (.inr (.inl (κ, rs)))) (hκ : ∃ ty, (j_t g)[κ]? = some (g.2.2.1 κ, ty) ∧ ty.isReference = true) (hi : i = nI k) (hr : rs[k]? = some (some r)) (hn : rs.length < 2147483648) (kk : J g d Y b σ h (pc + 1) ls (.ref r :: st) Q) : J g d Y b σ h pc ls (.int i :: .ref a :: st) Q := by
  intro p e R s m args below meth c Qw C H locs cells slots lsA hc hs' hP hS hl
  subst hi
  obtain ⟨ty, hty, href⟩ := hκ
  have hE := C.2.2.2.2.2.1
  have hk : k < rs.length := (List.getElem?_eq_some_iff.mp hr).1
  have hcl : (nI k).toNatClampNeg = k := nI_clamp (by omega)
  have hcell : H[g.2.2.2.1 a]? = some (vp_cell (g.2.2.1 κ) (rs.length, .inr (.inr (.inr (.inr (fun i => (rs.getD i none).map g.2.2.2.1)))))) := hP.2.2 a _ (j_w_at (g := g) (h := h) hs)
  have hv : va_rf ((rs.getD k none).map g.2.2.2.1) = .ref (g.2.2.2.1 r) := by
    rw [List.getD_eq_getElem?_getD, hr]
    rfl
  refine W.aald (v := .ref (g.2.2.2.1 r)) (ty := ty) C.1 C.2.1 hcell ((hE.1.2 κ _ hty).1 rs.length (fun j => va_rf ((rs.getD j none).map g.2.2.2.1))) href (fun q => by cases q) (by show ¬ (nI k < 0 ∨ (arrV _ _ _).slots.size ≤ _); rw [arrV_size]; exact j_in hk hn) (by show (arrV _ _ _).slots[_]? = _; rw [arrV_read _ _ (by rw [hcl]; exact hk), hcl, hv]) rfl rfl hd ?_
  exact kk p e R s m args below meth c Qw C H locs cells slots lsA hc hs' hP hS hl
theorem J_alen {a κ n : Nat} {v : Int32} (hd : decode Y.2.2.1 pc = .ok (.arraylength, 1)) (hs : σ[a]? = some (.inl (κ, n))) (hκ : ∃ ty, (j_t g)[κ]? = some (g.2.2.1 κ, ty)) (hv : nI n = v) (kk : J g d Y b σ h (pc + 1) ls (.int v :: st) Q) : J g d Y b σ h pc ls (.ref a :: st) Q := by
  intro p e R s m args below meth c Qw C H locs cells slots lsA hc hs' hP hS hl
  obtain ⟨ty, hty⟩ := hκ
  exact va_alen (D := g.2.1) C.1 C.2.1 C.2.2.2.2.2.1.1 hP.2.2 a κ (j_w_at (g := g) (h := h) hs) hty hv hd (kk p e R s m args below meth c Qw C H locs cells slots lsA hc hs' hP hS hl)
theorem J_alenR {a κ : Nat} {rs : List (Option Nat)} {v : Int32} (hd : decode Y.2.2.1 pc = .ok (.arraylength, 1)) (hs : σ[a]? = some (.inr (.inl (κ, rs)))) (hκ : ∃ ty, (j_t g)[κ]? = some (g.2.2.1 κ, ty)) (hv : nI rs.length = v) (kk : J g d Y b σ h (pc + 1) ls (.int v :: st) Q) : J g d Y b σ h pc ls (.ref a :: st) Q := by
  intro p e R s m args below meth c Qw C H locs cells slots lsA hc hs' hP hS hl
  obtain ⟨ty, hty⟩ := hκ
  exact va_alen (D := g.2.1) C.1 C.2.1 C.2.2.2.2.2.1.1 hP.2.2 a κ (j_w_at (g := g) (h := h) hs) hty hv hd (kk p e R s m args below meth c Qw C H locs cells slots lsA hc hs' hP hS hl)
end JH
end
section
/-! RULES: calls -/
def j_My (Y : jY) (n : Nat) : Prop := Y.2.1.cls = Y.1 ∧ Cond.code Y.2.1 Y.2.2.1 Y.2.2.2.1 Y.2.2.2.2 ∈ jB ∧ Cond.initialized Y.1 ∈ jB ∧ Y.1 ≠ "java/lang/invoke/MethodHandle" ∧ Y.1 ≠ "java/lang/invoke/VarHandle" ∧ (parseMethodDescriptor Y.2.1.desc).map (fun d => d.parameters.length) = some n ∧ Y.2.2.2.1 ≤ 18
def j_L (own : String) (idx : Nat) (y : MethodName) (nst : Bool) : Prop := (nst = false ∧ Cond.methodLink own idx y ∈ jB) ∨ (nst = true ∧ Cond.methodLinkNest own idx y "RainCover" ∈ jN)
theorem j_good {w : Cond} (h : w ∈ jB) : GoodIn jB (w :: jB) := fun x hx => by
  rcases List.mem_cons.mp hx with rfl | hx
  · exact ⟨h, jB_good h⟩
  · exact ⟨hx, jB_good hx⟩
section JC
variable {p : Program} {e : Env} {R : Room} {s : State} {m : MethodId} {args : Array Value} {below : List Frame} {meth : Method} {c : Code} {Qw : State → Prop}
variable {g : jG} {d : Nat} {Y Y' : jY} {b b' b2 : Nat × Nat} {σ : List jD} {h : jH} {pc : Nat} {ls : List (Nat × Value)} {st st0 : List Value} {P Q : jQ}
theorem j_run {H : Heap} {locs : List Loc} {cells slots : Nat} {lsA : Array Slot} {rest sv : List Value} {av : Array Value} (hr : va_Run p g.1 e R s m args below meth c H locs cells slots b'.1 b'.2 (F0 m pc lsA sv) rest (j_Qc g P av) (j_A g)) (hS : va_S (j_A g) s.heap H locs)
    (kk : ∀ (r : Option Value) (σ' : List jD) (h' : jH) (H1 : Heap) (locs1 : List Loc), P r σ' h' → j_P g σ' h' H1 → va_S (j_A g) s.heap H1 locs1 → W p g.1 e R s m args below meth c H1 locs1 (cells + b'.1) (slots + b'.2) Qw (F0 m (pc + 3) lsA ((r.map (j_v g.2.2.2.1)).toList ++ rest))) : W p g.1 e R s m args below meth c H locs cells slots Qw (F0 m pc lsA sv) := by
  intro T hT X
  obtain ⟨v, st₀, t, T', L, h0, X', hL, e1, e2, ⟨⟨r, σ', h', hv, hp, hPt⟩, hz, hk⟩, stp⟩ := hr T hT X
  cases hv
  rw [h0] at hz hk
  have hS' : va_S (j_A g) s.heap T'.heap (locs ++ L) := ⟨Nat.le_trans hS.1 (by rw [e1]; exact hz), fun q h1 h2 => by rw [e1, hk q (Nat.lt_of_lt_of_le h1 hS.1) h2]; exact hS.2.1 q h1 h2, fun q hq => by
      rcases List.mem_append.mp hq with h | h
      · exact hS.2.2 q h
      · exact hL q h⟩
  obtain ⟨t2, a1, b1⟩ := kk r σ' h' T'.heap (locs ++ L) hp (by rw [e1]; exact hPt) hS' T' rfl X'
  exact ⟨t2, stp t2 a1, b1⟩
theorem j_tl {ad : Nat → Nat} {r : Option Value} {rest : List Value} : (r.map (j_v ad)).toList ++ rest.map (j_v ad) = (r.toList ++ rest).map (j_v ad) := by
  cases r <;> simp
theorem j_cat {ad : Nat → Nat} {st : List Value} (h : (st.map fun v => v.category).sum ≤ 8) : ((st.map (j_v ad)).map fun v => v.category).sum ≤ 8 := by
  rw [List.map_map]
  have e : ((fun v : Value => v.category) ∘ j_v ad) = fun v => v.category := by
    funext v
    exact j_v_cat v
  rw [e]
  exact h
theorem J_callV {nst : Bool} {n ci a idx : Nat} {fs : List (Option (Option Nat))} {As : List Value} (hd : decode Y.2.2.1 pc = .ok (.invokevirtual idx, 3)) (hL : j_L Y.1 idx Y'.2.1 nst) (hM : j_My Y' n) (hI : Cond.instanceMethod Y'.2.1 ∈ jB ∧ Cond.selects Y'.1 Y'.2.1 Y'.2.1 ∈ jB) (hcl : ∃ T N, vwCl[ci]? = some (Y'.1, T, N)) (hs : σ[a]? = some (.inr (.inr (ci, fs)))) (hn : As.length = n) (hst : st0 = As.reverse ++ .ref a :: st) (hw : (st.map fun v => v.category).sum ≤ 8) (hb : b'.1 + b2.1 ≤ b.1 ∧ b'.2 + b2.2 ≤ b.2)
    (hc : M g d Y' b' σ h (.ref a :: As) P) (kk : ∀ (r : Option Value) (σ' : List jD) (h' : jH), P r σ' h' → J g (d + 1) Y b2 σ' h' (pc + 3) ls (r.toList ++ st) Q) : J g (d + 1) Y b σ h pc ls st0 Q := by
  intro p e R s m args below meth c Qw C H locs cells slots lsA hcl' hsl hP hS hl
  obtain ⟨hx, hbb, hml, hown, hts, hE, hba, hfr, hlo, hnm, hret⟩ := id C
  obtain ⟨m1, m2, m3, m4, m5, m6, m7⟩ := hM
  obtain ⟨T, N, hcl⟩ := hcl
  have hpre : PreV s H Y'.1 (g.2.2.2.1 a) (j_Pc g σ h (.ref a :: As)) (As.map (j_v g.2.2.2.1)) := ⟨j_blind _ _ _ _, va_recv hE.1 hP.2.2 hcl (j_w_at (g := g) (h := h) hs), fun U hU hW => ⟨rfl, by rw [hU]; exact Nat.le_trans hba hS.1, by rw [hU]; exact hP, hE.moved (by rw [hU]; exact hS) hW⟩⟩
  have hfit : cells + b'.1 ≤ R.cells ∧ slots + b'.2 ≤ R.slots := ⟨by omega, by omega⟩
  have hroom : (j_rm d b').frames + 1 ≤ R.frames ∧ 8 + (Y'.2.2.2.1 + 11) + (j_rm d b').locals ≤ R.locals := ⟨hfr, by show 8 + (Y'.2.2.2.1 + 11) + 37 * d ≤ _; omega⟩
  have hstk : (F0 m pc lsA (st0.map (j_v g.2.2.2.1))).stack = (As.map (j_v g.2.2.2.1)).reverse ++ .ref (g.2.2.2.1 a) :: st.map (j_v g.2.2.2.1) := by
    show st0.map (j_v g.2.2.2.1) = _
    rw [hst, List.map_append, List.map_reverse]
    rfl
  have go : ∀ (r : Option Value) (σ' : List jD) (h' : jH) (H1 : Heap) (locs1 : List Loc), P r σ' h' → j_P g σ' h' H1 → va_S (j_A g) s.heap H1 locs1 → W p g.1 e R s m args below meth c H1 locs1 (cells + b'.1) (slots + b'.2) Qw (F0 m (pc + 3) lsA ((r.map (j_v g.2.2.2.1)).toList ++ st.map (j_v g.2.2.2.1))) := fun r σ' h' H1 locs1 hp hP1 hS1 => by
    rw [j_tl]
    exact kk r σ' h' hp p e R s m args below meth c Qw C H1 locs1 _ _ lsA (by omega) (by omega) hP1 hS1 hl
  have hini : (Cond.initialized Y'.2.1.cls).before args s = true := by rw [m1]; exact hts _ m3
  have hdd : Y'.2.1.cls ≠ "java/lang/invoke/MethodHandle" ∧ Y'.2.1.cls ≠ "java/lang/invoke/VarHandle" ∧ (parseMethodDescriptor Y'.2.1.desc).map (fun d => d.parameters.length) = some n := ⟨by rw [m1]; exact m4, by rw [m1]; exact m5, m6⟩
  rcases hL with ⟨-, hL⟩ | ⟨-, hL⟩
  · exact j_run (va_runV (Ts := jB) (As := As.map (j_v g.2.2.2.1)) (rest := st.map (j_v g.2.2.2.1)) ⟨hx, hbb, hml, hown, hts⟩ hc ⟨callB_of n hts (j_good m2) rfl rfl rfl hini (hts _ hL) hdd hroom, hts _ hI.1, hts _ hI.2⟩ hpre rfl (by rw [List.length_map]; exact hn) hl.1 hstk (lv_room (j_cat hw)) hd hfit) hS go
  · exact j_run (va_runVN (Ts := jB) (As := As.map (j_v g.2.2.2.1)) (rest := st.map (j_v g.2.2.2.1)) ⟨hx, hbb, hml, hown, hts⟩ hc ⟨va_cnB n hts (j_good m2) rfl rfl rfl (hE.2.2.1 _ hL) hini hdd hroom, hts _ hI.1, hts _ hI.2⟩ hpre rfl (by rw [List.length_map]; exact hn) hl.1 hstk (lv_room (j_cat hw)) hd hfit) hS go
theorem J_callS {nst : Bool} {n idx : Nat} {As : List Value} (hd : decode Y.2.2.1 pc = .ok (.invokestatic idx, 3)) (hL : j_L Y.1 idx Y'.2.1 nst) (hM : j_My Y' n) (hI : Cond.static Y'.2.1 ∈ jB) (hn : As.length = n) (hst : st0 = As.reverse ++ st) (hw : (st.map fun v => v.category).sum ≤ 8) (hb : b'.1 + b2.1 ≤ b.1 ∧ b'.2 + b2.2 ≤ b.2)
    (hc : M g d Y' b' σ h As P) (kk : ∀ (r : Option Value) (σ' : List jD) (h' : jH), P r σ' h' → J g (d + 1) Y b2 σ' h' (pc + 3) ls (r.toList ++ st) Q) : J g (d + 1) Y b σ h pc ls st0 Q := by
  intro p e R s m args below meth c Qw C H locs cells slots lsA hcl' hsl hP hS hl
  obtain ⟨hx, hbb, hml, hown, hts, hE, hba, hfr, hlo, hnm, hret⟩ := id C
  obtain ⟨m1, m2, m3, m4, m5, m6, m7⟩ := hM
  have hpre : PreS s H (j_Pc g σ h As) (As.map (j_v g.2.2.2.1)) := ⟨j_blind _ _ _ _, fun U hU hW => ⟨rfl, by rw [hU]; exact Nat.le_trans hba hS.1, by rw [hU]; exact hP, hE.moved (by rw [hU]; exact hS) hW⟩⟩
  have hfit : cells + b'.1 ≤ R.cells ∧ slots + b'.2 ≤ R.slots := ⟨by omega, by omega⟩
  have hroom : (j_rm d b').frames + 1 ≤ R.frames ∧ 8 + (Y'.2.2.2.1 + 11) + (j_rm d b').locals ≤ R.locals := ⟨hfr, by show 8 + (Y'.2.2.2.1 + 11) + 37 * d ≤ _; omega⟩
  have hstk : (F0 m pc lsA (st0.map (j_v g.2.2.2.1))).stack = (As.map (j_v g.2.2.2.1)).reverse ++ st.map (j_v g.2.2.2.1) := by
    show st0.map (j_v g.2.2.2.1) = _
    rw [hst, List.map_append, List.map_reverse]
  have go : ∀ (r : Option Value) (σ' : List jD) (h' : jH) (H1 : Heap) (locs1 : List Loc), P r σ' h' → j_P g σ' h' H1 → va_S (j_A g) s.heap H1 locs1 → W p g.1 e R s m args below meth c H1 locs1 (cells + b'.1) (slots + b'.2) Qw (F0 m (pc + 3) lsA ((r.map (j_v g.2.2.2.1)).toList ++ st.map (j_v g.2.2.2.1))) := fun r σ' h' H1 locs1 hp hP1 hS1 => by
    rw [j_tl]
    exact kk r σ' h' hp p e R s m args below meth c Qw C H1 locs1 _ _ lsA (by omega) (by omega) hP1 hS1 hl
  have hini : (Cond.initialized Y'.2.1.cls).before args s = true := by rw [m1]; exact hts _ m3
  have hdd : Y'.2.1.cls ≠ "java/lang/invoke/MethodHandle" ∧ Y'.2.1.cls ≠ "java/lang/invoke/VarHandle" ∧ (parseMethodDescriptor Y'.2.1.desc).map (fun d => d.parameters.length) = some n := ⟨by rw [m1]; exact m4, by rw [m1]; exact m5, m6⟩
  rcases hL with ⟨-, hL⟩ | ⟨-, hL⟩
  · exact j_run (va_runS (Ts := jB) (As := As.map (j_v g.2.2.2.1)) (rest := st.map (j_v g.2.2.2.1)) ⟨hx, hbb, hml, hown, hts⟩ hc ⟨callB_of n hts (j_good m2) rfl rfl rfl hini (hts _ hL) hdd hroom, hts _ hI⟩ hpre rfl (by rw [List.length_map]; exact hn) hl.1 hstk (lv_room (j_cat hw)) hd hfit) hS go
  · exact j_run (va_runSN (Ts := jB) (As := As.map (j_v g.2.2.2.1)) (rest := st.map (j_v g.2.2.2.1)) ⟨hx, hbb, hml, hown, hts⟩ hc ⟨va_cnB n hts (j_good m2) rfl rfl rfl (hE.2.2.1 _ hL) hini hdd hroom, hts _ hI, trivial⟩ hpre rfl (by rw [List.length_map]; exact hn) hl.1 hstk (lv_room (j_cat hw)) hd hfit) hS go
theorem J_callI {nst : Bool} {n a idx : Nat} {As : List Value} (hd : decode Y.2.2.1 pc = .ok (.invokespecial idx, 3)) (hL : j_L Y.1 idx Y'.2.1 nst) (hM : j_My Y' n) (hv : Y'.2.2.2.2 = none) (hI : Cond.instanceMethod Y'.2.1 ∈ jB ∧ Y'.2.1.name = "<init>") (hn : As.length = n) (hst : st0 = As.reverse ++ .ref a :: st) (hw : (st.map fun v => v.category).sum ≤ 8) (hb : b'.1 + b2.1 ≤ b.1 ∧ b'.2 + b2.2 ≤ b.2)
    (hc : M g d Y' b' σ h (.ref a :: As) P) (kk : ∀ (r : Option Value) (σ' : List jD) (h' : jH), P r σ' h' → J g (d + 1) Y b2 σ' h' (pc + 3) ls (r.toList ++ st) Q) : J g (d + 1) Y b σ h pc ls st0 Q := by
  intro p e R s m args below meth c Qw C H locs cells slots lsA hcl' hsl hP hS hl
  obtain ⟨hx, hbb, hml, hown, hts, hE, hba, hfr, hlo, hnm, hret⟩ := id C
  obtain ⟨own', y', cc', maxL', ret'⟩ := Y'
  subst hv
  obtain ⟨m1, m2, m3, m4, m5, m6, m7⟩ := hM
  have hpre : PreS s H (j_Pc g σ h (.ref a :: As)) (.ref (g.2.2.2.1 a) :: As.map (j_v g.2.2.2.1)) := ⟨j_blind _ _ _ _, fun U hU hW => ⟨rfl, by rw [hU]; exact Nat.le_trans hba hS.1, by rw [hU]; exact hP, hE.moved (by rw [hU]; exact hS) hW⟩⟩
  have hfit : cells + b'.1 ≤ R.cells ∧ slots + b'.2 ≤ R.slots := ⟨by omega, by omega⟩
  have hroom : (j_rm d b').frames + 1 ≤ R.frames ∧ 8 + (maxL' + 11) + (j_rm d b').locals ≤ R.locals := ⟨hfr, by show 8 + (maxL' + 11) + 37 * d ≤ _; have : maxL' ≤ 18 := m7; omega⟩
  have hstk : (F0 m pc lsA (st0.map (j_v g.2.2.2.1))).stack = (As.map (j_v g.2.2.2.1)).reverse ++ .ref (g.2.2.2.1 a) :: st.map (j_v g.2.2.2.1) := by
    show st0.map (j_v g.2.2.2.1) = _
    rw [hst, List.map_append, List.map_reverse]
    rfl
  have go : ∀ (r : Option Value) (σ' : List jD) (h' : jH) (H1 : Heap) (locs1 : List Loc), P r σ' h' → j_P g σ' h' H1 → va_S (j_A g) s.heap H1 locs1 → W p g.1 e R s m args below meth c H1 locs1 (cells + b'.1) (slots + b'.2) Qw (F0 m (pc + 3) lsA ((r.map (j_v g.2.2.2.1)).toList ++ st.map (j_v g.2.2.2.1))) := fun r σ' h' H1 locs1 hp hP1 hS1 => by
    rw [j_tl]
    exact kk r σ' h' hp p e R s m args below meth c Qw C H1 locs1 _ _ lsA (by omega) (by omega) hP1 hS1 hl
  have m1' : y'.cls = own' := m1
  have hini : (Cond.initialized y'.cls).before args s = true := by rw [m1']; exact hts _ m3
  have hdd : y'.cls ≠ "java/lang/invoke/MethodHandle" ∧ y'.cls ≠ "java/lang/invoke/VarHandle" ∧ (parseMethodDescriptor y'.desc).map (fun d => d.parameters.length) = some n := ⟨by rw [m1']; exact m4, by rw [m1']; exact m5, m6⟩
  rcases hL with ⟨-, hL⟩ | ⟨-, hL⟩
  · exact j_run (va_runI (Ts := jB) (As := As.map (j_v g.2.2.2.1)) (rest := st.map (j_v g.2.2.2.1)) ⟨hx, hbb, hml, hown, hts⟩ hc ⟨callB_of n hts (j_good m2) rfl rfl rfl hini (hts _ hL) hdd hroom, hI.2, hts _ hI.1⟩ hpre rfl (by rw [List.length_map]; exact hn) hl.1 hstk (lv_room (j_cat hw)) hd hfit) hS go
  · exact j_run (va_runIN (Ts := jB) (As := As.map (j_v g.2.2.2.1)) (rest := st.map (j_v g.2.2.2.1)) ⟨hx, hbb, hml, hown, hts⟩ hc ⟨va_cnB n hts (j_good m2) rfl rfl rfl (hE.2.2.1 _ hL) hini hdd hroom, hI.2, hts _ hI.1⟩ hpre rfl (by rw [List.length_map]; exact hn) hl.1 hstk (lv_room (j_cat hw)) hd hfit) hS go
theorem J_objInit {a idx : Nat} (hd : decode Y.2.2.1 pc = .ok (.invokespecial idx, 3)) (h1 : Cond.methodLink Y.1 idx Lib.objectInit ∈ jB) (h2 : Cond.instanceMethod Lib.objectInit ∈ jB) (h3 : Cond.code Lib.objectInit ⟨#[0xb1]⟩ 1 none ∈ jB) (hw : (st.map fun v => v.category).sum ≤ 8) (kk : J g (d + 1) Y b σ h (pc + 3) ls st Q) : J g (d + 1) Y b σ h pc ls (.ref a :: st) Q := by
  intro p e R s m args below meth c Qw C H locs cells slots lsA hc hs hP hS hl
  obtain ⟨hx, hbb, hml, hown, hts, hE, hba, hfr, hlo, hnm, hret⟩ := id C
  have hl' := lv_room (m := m) (pc := pc) (ls := lsA) (rest := (.ref a :: st).map (j_v g.2.2.2.1)) (j_cat (ad := g.2.2.2.1) hw)
  have hf1 : 1 ≤ R.frames := by omega
  have hl20 : 20 ≤ R.locals := by omega
  refine W.objInit (g := F0 m pc lsA ((.ref a :: st).map (j_v g.2.2.2.1))) (rest := st.map (j_v g.2.2.2.1)) hx hbb hown (hts _ h1) (hts _ h2) (hts _ h3) rfl (by rw [hml]; exact hl.1) rfl hd hf1 (Nat.le_trans (Nat.add_le_add_right hl' 12) hl20) ?_
  exact kk p e R s m args below meth c Qw C H locs cells slots lsA hc hs hP hS hl
theorem J_min {x y v : Int32} {idx : Nat} (hd : decode Y.2.2.1 pc = .ok (.invokestatic idx, 3)) (h1 : Cond.methodLink Y.1 idx Lib.Math.min.name ∈ jB) (h2 : Cond.static Lib.Math.min.name ∈ jB) (h3 : Cond.initialized "java/lang/Math" ∈ jB) (h4 : Cond.code Lib.Math.min.name Lib.Math.min.code 2 (some .int) ∈ jB) (hw : (st.map fun v => v.category).sum ≤ 8) (hv : (if y < x then y else x) = v) (kk : J g (d + 1) Y b σ h (pc + 3) ls (.int v :: st) Q) : J g (d + 1) Y b σ h pc ls (.int y :: .int x :: st) Q := by
  intro p e R s m args below meth c Qw C H locs cells slots lsA hc hs hP hS hl
  obtain ⟨hx, hbb, hml, hown, hts, hE, hba, hfr, hlo, hnm, hret⟩ := id C
  subst hv
  have hw' := j_cat (ad := g.2.2.2.1) hw
  exact va_mmin hx hbb (by rw [hml]; exact hl.1.symm) hown (hts _ h1) (hts _ h2) (hts _ h3) (hts _ h4) (by omega) (by omega) (by omega) (by omega) hd (kk p e R s m args below meth c Qw C H locs cells slots lsA hc hs hP hS hl)
theorem J_max {x y v : Int32} {idx : Nat} (hd : decode Y.2.2.1 pc = .ok (.invokestatic idx, 3)) (h1 : Cond.methodLink Y.1 idx Lib.Math.max.name ∈ jB) (h2 : Cond.static Lib.Math.max.name ∈ jB) (h3 : Cond.initialized "java/lang/Math" ∈ jB) (h4 : Cond.code Lib.Math.max.name Lib.Math.max.code 2 (some .int) ∈ jB) (hw : (st.map fun v => v.category).sum ≤ 8) (hv : (if x < y then y else x) = v) (kk : J g (d + 1) Y b σ h (pc + 3) ls (.int v :: st) Q) : J g (d + 1) Y b σ h pc ls (.int y :: .int x :: st) Q := by
  intro p e R s m args below meth c Qw C H locs cells slots lsA hc hs hP hS hl
  obtain ⟨hx, hbb, hml, hown, hts, hE, hba, hfr, hlo, hnm, hret⟩ := id C
  subst hv
  have hw' := j_cat (ad := g.2.2.2.1) hw
  exact va_mmax hx hbb (by rw [hml]; exact hl.1.symm) hown (hts _ h1) (hts _ h2) (hts _ h3) (hts _ h4) (by omega) (by omega) (by omega) (by omega) hd (kk p e R s m args below meth c Qw C H locs cells slots lsA hc hs hP hS hl)
theorem J_maxL {x y v : Int64} {idx : Nat} (hd : decode Y.2.2.1 pc = .ok (.invokestatic idx, 3)) (h1 : Cond.methodLink Y.1 idx Lib.MathLoose.max_long.x ∈ jB) (h2 : Cond.static Lib.MathLoose.max_long.x ∈ jB) (h3 : Cond.initialized "java/lang/Math" ∈ jB) (h4 : Cond.code Lib.MathLoose.max_long.x Lib.MathLoose.max_long.code 4 (some .long) ∈ jB) (hw : (st.map fun v => v.category).sum ≤ 8) (hv : (if y < x then x else y) = v) (kk : J g (d + 1) Y b σ h (pc + 3) ls (.long v :: st) Q) : J g (d + 1) Y b σ h pc ls (.long y :: .long x :: st) Q := by
  intro p e R s m args below meth c Qw C H locs cells slots lsA hc hs hP hS hl
  obtain ⟨hx, hbb, hml, hown, hts, hE, hba, hfr, hlo, hnm, hret⟩ := id C
  subst hv
  have hw' := j_cat (ad := g.2.2.2.1) hw
  exact va_mmax_long hx hbb (by rw [hml]; exact hl.1.symm) hown (hts _ h1) (hts _ h2) (hts _ h3) (hts _ h4) (by omega) (by omega) (by omega) (by omega) hd (kk p e R s m args below meth c Qw C H locs cells slots lsA hc hs hP hS hl)
/-- System.arraycopy between two int rows -/
theorem J_copy {a0 a n0 n1 p0 p1 n idx : Nat} {sp dp ln : Int32} (hd : decode Y.2.2.1 pc = .ok (.invokestatic idx, 3)) (h1 : Cond.methodLink Y.1 idx arraycopyName ∈ jB) (h2 : Cond.native arraycopyName ∈ jB) (h3 : Cond.static arraycopyName ∈ jB) (h4 : Cond.initialized "java/lang/System" ∈ jB) (hs0 : σ[a0]? = some (.inl (0, n0))) (hs1 : σ[a]? = some (.inl (0, n1))) (e0 : sp = nI p0) (e1 : dp = nI p1) (e2 : ln = nI n) (hn0 : p0 + n ≤ n0) (hn1 : p1 + n ≤ n1) (hz0 : n0 < 1000000) (hz1 : n1 < 1000000) (hw : (st.map fun v => v.category).sum ≤ 8)
    (kk : J g (d + 1) Y b σ (j_row h a (va_cpy (h a0) (h a) p0 p1 n)) (pc + 3) ls st Q) : J g (d + 1) Y b σ h pc ls (.int ln :: .int dp :: .ref a :: .int sp :: .ref a0 :: st) Q := by
  intro p e R s m args below meth c Qw C H locs cells slots lsA hc hs hP hS hl
  obtain ⟨hx, hbb, hml, hown, hts, hE, hba, hfr, hlo, hnm, hret⟩ := id C
  subst e0; subst e1; subst e2
  have hw' := j_cat (ad := g.2.2.2.1) hw
  have c0 : H[g.2.2.2.1 a0]? = some (vp_cell (g.2.2.1 0) (n0, .inl (h a0))) := hP.2.2 a0 _ (j_w_at (g := g) (h := h) hs0)
  have c1 : H[g.2.2.2.1 a]? = some (vp_cell (g.2.2.1 0) (n1, .inl (h a))) := hP.2.2 a _ (j_w_at (g := g) (h := h) hs1)
  have t0 := (hE.1.2 0 _ rfl).1
  have k0 : (nI p0).toNatClampNeg = p0 := nI_clamp (by omega)
  have k1 : (nI p1).toNatClampNeg = p1 := nI_clamp (by omega)
  have k2 : (nI n).toNatClampNeg = n := nI_clamp (by omega)
  have hf1 : 1 ≤ R.frames := by omega
  have hnw : nativeFrameWords "java/lang/System" "arraycopy" 5 ≤ 17 := by decide
  intro T hT X
  obtain ⟨-, kA, hkA, cm, hkk⟩ := t0 n0 (fun j => .int (h a0 j))
  obtain ⟨vm', X', step⟩ := X.arraycopy hx hown (hts _ h1) (hts _ h2) (hts _ h3) (hts _ h4) (src := g.2.2.2.1 a0) (dst := g.2.2.2.1 a) (cs := vp_cell (g.2.2.1 0) (n0, .inl (h a0))) (cd := vp_cell (g.2.2.1 0) (n1, .inl (h a))) (srcPos := nI p0) (destPos := nI p1) (n := nI n) (by rw [hT]; exact c0) (by rw [hT]; exact c1)
    (fun _ h => by cases h) (fun _ h => by cases h) (fun h => by cases h) (fun h => by cases h) hkA hkA hkk hkk rfl (nI_pos (by omega)) (nI_pos (by omega)) (nI_pos (by omega))
    (by rw [nI_toInt (by omega), nI_toInt (by omega)]; show ¬ _ > ((arrV _ n0 (fun j => .int (h a0 j))).slots.size : Int); rw [arrV_size]; omega)
    (by rw [nI_toInt (by omega), nI_toInt (by omega)]; show ¬ _ > ((arrV _ n1 (fun j => .int (h a j))).slots.size : Int); rw [arrV_size]; omega)
    (fun vm₁ _ i hi => by
      have e : (vp_cell (g.2.2.1 0) (n0, .inl (h a0))).slots.getD ((nI p0).toNatClampNeg + i) .null = .int (h a0 ((nI p0).toNatClampNeg + i)) := by
        show (arrV _ n0 (fun j => .int (h a0 j))).slots.getD _ _ = _
        rw [Array.getD_eq_getD_getElem?, arrV_read _ _ (by omega)]
        rfl
      exact ⟨by rw [e]; rfl, by rw [e]; exact trivial⟩)
    (g := F0 m pc lsA ((.int (nI n) :: .int (nI p1) :: .ref a :: .int (nI p0) :: .ref a0 :: st).map (j_v g.2.2.2.1))) rfl (by rw [hml]; exact hl.1) (rest := st.map (j_v g.2.2.2.1)) rfl (by rw [hbb]; exact hd) hf1 (by show 2 * 0 + _ + (nativeFrameWords "java/lang/System" "arraycopy" 5 + 11) ≤ _; omega)
  have e1 : copied (vp_cell (g.2.2.1 0) (n0, .inl (h a0))) (vp_cell (g.2.2.1 0) (n1, .inl (h a))) (nI p0) (nI p1) (nI n) = vp_cell (g.2.2.1 0) (n1, .inl (va_cpy (h a0) (h a) p0 p1 n)) := by
    have := va_copied (fun z : Int32 => Value.int z) (g.2.2.1 0) (g.2.2.1 0) (n0 := n0) (n1 := n1) (sp := (nI p0).toNatClampNeg) (dp := (nI p1).toNatClampNeg) (n := (nI n).toNatClampNeg) (h a0) (h a) (by omega)
    rw [k0, k1, k2] at this
    show (vp_cell _ _).storeRun _ _ = _
    rw [k0, k1, k2]
    exact this
  rw [e1] at X' step
  have hla : g.2.2.2.1 a < H.size := (Array.getElem?_eq_some_iff.mp c1).1
  have hheap : ((T.setVm vm').setCell (g.2.2.2.1 a) (vp_cell (g.2.2.1 0) (n1, .inl (va_cpy (h a0) (h a) p0 p1 n)))).heap = H.setIfInBounds (g.2.2.2.1 a) (vp_cell (g.2.2.1 0) (n1, .inl (va_cpy (h a0) (h a) p0 p1 n))) := by rw [← hT]; rfl
  have oq : ∀ q : Nat, q ≠ g.2.2.2.1 a → (H.setIfInBounds (g.2.2.2.1 a) (vp_cell (g.2.2.1 0) (n1, .inl (va_cpy (h a0) (h a) p0 p1 n))))[q]? = H[q]? := fun q hq => by simp [Array.getElem?_setIfInBounds, Ne.symm hq]
  have hP1 : j_P g (σ.set a (.inl (0, n1))) (j_row h a (va_cpy (h a0) (h a) p0 p1 n)) (H.setIfInBounds (g.2.2.2.1 a) (vp_cell (g.2.2.1 0) (n1, .inl (va_cpy (h a0) (h a) p0 p1 n)))) := by
    refine j_put_cell hE.2.1 hP hs1 j_row_ne (by simp) ?_ oq
    rw [j_row_at]
    show (H.setIfInBounds _ _)[_]? = some _
    simp [Array.getElem?_setIfInBounds, hla]
  rw [j_set_same hs1] at hP1
  have hA : j_A g (g.2.2.2.1 a) := (j_D (g := g) (σ := σ) (h := h) hE.2.1 hP.1).2 a _ (j_w_at hs1)
  obtain ⟨t, a1, b1⟩ := kk p e R s m args below meth c Qw C _ _ cells slots lsA hc hs hP1 ⟨by simp; exact hS.1, fun q g1 g2 => by
      rw [oq q (fun e => g2 (by rw [e]; exact hA))]
      exact hS.2.1 q g1 g2, fun q hq => by
      rcases List.mem_append.mp hq with h | h
      · exact hS.2.2 q h
      · obtain ⟨z, -, hz⟩ := List.mem_map.mp h
        rw [← hz]
        exact hA⟩ hl _ hheap X'
  exact ⟨t, step t a1, b1⟩
/-- the class's two constant rows -/
theorem J_gsB {idx : Nat} (hd : decode Y.2.2.1 pc = .ok (.getstatic idx, 3)) (hL : Cond.fieldLinkNest Y.1 idx "RainCover" "BRINGS" "[I" "RainCover" ∈ jN) (kk : J g d Y b σ h (pc + 3) ls (.ref 200000 :: st) Q) : J g d Y b σ h pc ls st Q := by
  intro p e R s m args below meth c Qw C H locs cells slots lsA hc hs hP hS hl
  obtain ⟨hx, hbb, hml, hown, hts, hE, -⟩ := id C
  exact va_getsN hx hbb hE.2.2.2.1 hS hown (va_Nw.use rfl (hE.2.2.1 _ hL)) (fun _ h => h) hd (kk p e R s m args below meth c Qw C H locs cells slots lsA hc hs hP hS hl)
theorem J_gsF {idx : Nat} (hd : decode Y.2.2.1 pc = .ok (.getstatic idx, 3)) (hL : Cond.fieldLink Y.1 idx "RainCover$Outlook" "FIRST" "[I" ∈ jB) (kk : J g d Y b σ h (pc + 3) ls (.ref 200001 :: st) Q) : J g d Y b σ h pc ls st Q := by
  intro p e R s m args below meth c Qw C H locs cells slots lsA hc hs hP hS hl
  obtain ⟨hx, hbb, hml, hown, hts, hE, -⟩ := id C
  exact va_gets hx hbb hE.2.2.2.2.2.1 hS hown (hts _ hL) (fun _ h => h) hd (kk p e R s m args below meth c Qw C H locs cells slots lsA hc hs hP hS hl)
theorem J_ialdB {k : Nat} {i : Int32} {x : Int32} (hd : decode Y.2.2.1 pc = .ok (.iaload, 1)) (hi : i = nI k) (hk : k < 16) (hx : j_bri.getD k 0 = x) (kk : J g d Y b σ h (pc + 1) ls (.int x :: st) Q) : J g d Y b σ h pc ls (.int i :: .ref 200000 :: st) Q := by
  intro p e R s m args below meth c Qw C H locs cells slots lsA hc hs hP hS hl
  obtain ⟨hxx, hbb, hml, hown, hts, hE, -⟩ := id C
  subst hi
  subst hx
  exact va_ti hxx hbb hE.2.2.2.2.1 hS (j_in hk (by omega)) (v := .int (j_bri.getD k 0)) (by rw [nI_clamp (by omega)]) hd (kk p e R s m args below meth c Qw C H locs cells slots lsA hc hs hP hS hl)
theorem J_ialdF {k : Nat} {i : Int32} {x : Int32} (hd : decode Y.2.2.1 pc = .ok (.iaload, 1)) (hi : i = nI k) (hk : k < 5) (hx : j_fst.getD k 0 = x) (kk : J g d Y b σ h (pc + 1) ls (.int x :: st) Q) : J g d Y b σ h pc ls (.int i :: .ref 200001 :: st) Q := by
  intro p e R s m args below meth c Qw C H locs cells slots lsA hc hs hP hS hl
  obtain ⟨hxx, hbb, hml, hown, hts, hE, -⟩ := id C
  subst hi
  subst hx
  exact va_ti hxx hbb hE.2.2.2.2.2.2.1 hS (j_in hk (by omega)) (v := .int (j_fst.getD k 0)) (by rw [nI_clamp (by omega)]) hd (kk p e R s m args below meth c Qw C H locs cells slots lsA hc hs hP hS hl)
end JC
end
section
theorem zz_end : True := trivial
end
