-- ===== PART A: goes FIRST, ahead of the names: the tables' words, and 'selects' of the private methods out of them =====
/-- a private method of a class that the tables say can be made, by its rows of tables_1 -/
def lw_okq (q : MethodName × Nat) : Prop := (q.1.cls ≠ "java/lang/invoke/MethodHandle" ∧ q.1.cls ≠ "java/lang/invoke/VarHandle") ∧ Cond.instantiable q.1.cls q.2 ∈ tables_1 ∧ Cond.privateMethod q.1 ∈ tables_1 ∧ Cond.instanceMethod q.1 ∈ tables_1
theorem lw_p0 : lw_okq (⟨"StoneMeet", "tapeFour", "(I)V"⟩, 19) := ⟨⟨by decide +kernel, by decide +kernel⟩, List.mem_of_getElem? (i := 23) (by decide +kernel), List.mem_of_getElem? (i := 516) (by decide +kernel), List.mem_of_getElem? (i := 517) (by decide +kernel)⟩
theorem lw_p1 : lw_okq (⟨"StoneMeet$Parser", "forget", "()V"⟩, 16) := ⟨⟨by decide +kernel, by decide +kernel⟩, List.mem_of_getElem? (i := 31) (by decide +kernel), List.mem_of_getElem? (i := 528) (by decide +kernel), List.mem_of_getElem? (i := 529) (by decide +kernel)⟩
theorem lw_p2 : lw_okq (⟨"StoneMeet$Reader", "readWord", "()V"⟩, 6) := ⟨⟨by decide +kernel, by decide +kernel⟩, List.mem_of_getElem? (i := 37) (by decide +kernel), List.mem_of_getElem? (i := 541) (by decide +kernel), List.mem_of_getElem? (i := 542) (by decide +kernel)⟩
theorem lw_p3 : lw_okq (⟨"StoneMeet$Reader", "readNumber", "()V"⟩, 6) := ⟨⟨by decide +kernel, by decide +kernel⟩, List.mem_of_getElem? (i := 37) (by decide +kernel), List.mem_of_getElem? (i := 545) (by decide +kernel), List.mem_of_getElem? (i := 546) (by decide +kernel)⟩
theorem lw_p4 : lw_okq (⟨"StoneMeet$Parser", "tellCave", "()Z"⟩, 16) := ⟨⟨by decide +kernel, by decide +kernel⟩, List.mem_of_getElem? (i := 31) (by decide +kernel), List.mem_of_getElem? (i := 632) (by decide +kernel), List.mem_of_getElem? (i := 633) (by decide +kernel)⟩
theorem lw_p5 : lw_okq (⟨"StoneMeet$Parser", "take", "(Ljava/lang/String;)Z"⟩, 16) := ⟨⟨by decide +kernel, by decide +kernel⟩, List.mem_of_getElem? (i := 31) (by decide +kernel), List.mem_of_getElem? (i := 637) (by decide +kernel), List.mem_of_getElem? (i := 638) (by decide +kernel)⟩
theorem lw_p6 : lw_okq (⟨"StoneMeet$Parser", "refuse", "(I)Z"⟩, 16) := ⟨⟨by decide +kernel, by decide +kernel⟩, List.mem_of_getElem? (i := 31) (by decide +kernel), List.mem_of_getElem? (i := 666) (by decide +kernel), List.mem_of_getElem? (i := 667) (by decide +kernel)⟩
theorem lw_p7 : lw_okq (⟨"StoneMeet$Parser", "takeNumber", "(I)Z"⟩, 16) := ⟨⟨by decide +kernel, by decide +kernel⟩, List.mem_of_getElem? (i := 31) (by decide +kernel), List.mem_of_getElem? (i := 672) (by decide +kernel), List.mem_of_getElem? (i := 673) (by decide +kernel)⟩
theorem lw_p8 : lw_okq (⟨"StoneMeet$Parser", "tellLine", "()Z"⟩, 16) := ⟨⟨by decide +kernel, by decide +kernel⟩, List.mem_of_getElem? (i := 31) (by decide +kernel), List.mem_of_getElem? (i := 677) (by decide +kernel), List.mem_of_getElem? (i := 678) (by decide +kernel)⟩
theorem lw_p9 : lw_okq (⟨"StoneMeet$Parser", "tellPair", "()Z"⟩, 16) := ⟨⟨by decide +kernel, by decide +kernel⟩, List.mem_of_getElem? (i := 31) (by decide +kernel), List.mem_of_getElem? (i := 682) (by decide +kernel), List.mem_of_getElem? (i := 683) (by decide +kernel)⟩
theorem lw_p10 : lw_okq (⟨"StoneMeet$Parser", "tellLead", "()Z"⟩, 16) := ⟨⟨by decide +kernel, by decide +kernel⟩, List.mem_of_getElem? (i := 31) (by decide +kernel), List.mem_of_getElem? (i := 691) (by decide +kernel), List.mem_of_getElem? (i := 692) (by decide +kernel)⟩
theorem lw_p11 : lw_okq (⟨"StoneMeet$Parser", "tellDry", "()Z"⟩, 16) := ⟨⟨by decide +kernel, by decide +kernel⟩, List.mem_of_getElem? (i := 31) (by decide +kernel), List.mem_of_getElem? (i := 697) (by decide +kernel), List.mem_of_getElem? (i := 698) (by decide +kernel)⟩
theorem lw_p12 : lw_okq (⟨"StoneMeet$Parser", "tellGrows", "()Z"⟩, 16) := ⟨⟨by decide +kernel, by decide +kernel⟩, List.mem_of_getElem? (i := 31) (by decide +kernel), List.mem_of_getElem? (i := 702) (by decide +kernel), List.mem_of_getElem? (i := 703) (by decide +kernel)⟩
theorem lw_p13 : lw_okq (⟨"StoneMeet$Parser", "sum", "(I)Z"⟩, 16) := ⟨⟨by decide +kernel, by decide +kernel⟩, List.mem_of_getElem? (i := 31) (by decide +kernel), List.mem_of_getElem? (i := 707) (by decide +kernel), List.mem_of_getElem? (i := 708) (by decide +kernel)⟩
theorem lw_p14 : lw_okq (⟨"StoneMeet$Parser", "term", "(I)Z"⟩, 16) := ⟨⟨by decide +kernel, by decide +kernel⟩, List.mem_of_getElem? (i := 31) (by decide +kernel), List.mem_of_getElem? (i := 711) (by decide +kernel), List.mem_of_getElem? (i := 712) (by decide +kernel)⟩
theorem lw_p15 : lw_okq (⟨"StoneMeet$Parser", "atom", "(I)Z"⟩, 16) := ⟨⟨by decide +kernel, by decide +kernel⟩, List.mem_of_getElem? (i := 31) (by decide +kernel), List.mem_of_getElem? (i := 715) (by decide +kernel), List.mem_of_getElem? (i := 716) (by decide +kernel)⟩
def lw_privs_1 : List (MethodName × Nat) := [(⟨"StoneMeet", "tapeFour", "(I)V"⟩, 19), (⟨"StoneMeet$Parser", "forget", "()V"⟩, 16), (⟨"StoneMeet$Reader", "readWord", "()V"⟩, 6), (⟨"StoneMeet$Reader", "readNumber", "()V"⟩, 6), (⟨"StoneMeet$Parser", "tellCave", "()Z"⟩, 16), (⟨"StoneMeet$Parser", "take", "(Ljava/lang/String;)Z"⟩, 16), (⟨"StoneMeet$Parser", "refuse", "(I)Z"⟩, 16), (⟨"StoneMeet$Parser", "takeNumber", "(I)Z"⟩, 16), (⟨"StoneMeet$Parser", "tellLine", "()Z"⟩, 16), (⟨"StoneMeet$Parser", "tellPair", "()Z"⟩, 16), (⟨"StoneMeet$Parser", "tellLead", "()Z"⟩, 16), (⟨"StoneMeet$Parser", "tellDry", "()Z"⟩, 16), (⟨"StoneMeet$Parser", "tellGrows", "()Z"⟩, 16), (⟨"StoneMeet$Parser", "sum", "(I)Z"⟩, 16), (⟨"StoneMeet$Parser", "term", "(I)Z"⟩, 16), (⟨"StoneMeet$Parser", "atom", "(I)Z"⟩, 16)]
theorem lw_r1 : ∀ q ∈ lw_privs_1, lw_okq q := List.forall_mem_cons.mpr ⟨lw_p0, List.forall_mem_cons.mpr ⟨lw_p1, List.forall_mem_cons.mpr ⟨lw_p2, List.forall_mem_cons.mpr ⟨lw_p3, List.forall_mem_cons.mpr ⟨lw_p4, List.forall_mem_cons.mpr ⟨lw_p5, List.forall_mem_cons.mpr ⟨lw_p6, List.forall_mem_cons.mpr ⟨lw_p7, List.forall_mem_cons.mpr ⟨lw_p8, List.forall_mem_cons.mpr ⟨lw_p9, List.forall_mem_cons.mpr ⟨lw_p10, List.forall_mem_cons.mpr ⟨lw_p11, List.forall_mem_cons.mpr ⟨lw_p12, List.forall_mem_cons.mpr ⟨lw_p13, List.forall_mem_cons.mpr ⟨lw_p14, List.forall_mem_cons.mpr ⟨lw_p15, fun _ h => absurd h List.not_mem_nil⟩⟩⟩⟩⟩⟩⟩⟩⟩⟩⟩⟩⟩⟩⟩⟩
theorem lw_p16 : lw_okq (⟨"StoneMeet$Parser", "goInto", "(I)Z"⟩, 16) := ⟨⟨by decide +kernel, by decide +kernel⟩, List.mem_of_getElem? (i := 31) (by decide +kernel), List.mem_of_getElem? (i := 720) (by decide +kernel), List.mem_of_getElem? (i := 721) (by decide +kernel)⟩
theorem lw_p17 : lw_okq (⟨"StoneMeet$Parser", "choice", "(I)Z"⟩, 16) := ⟨⟨by decide +kernel, by decide +kernel⟩, List.mem_of_getElem? (i := 31) (by decide +kernel), List.mem_of_getElem? (i := 726) (by decide +kernel), List.mem_of_getElem? (i := 727) (by decide +kernel)⟩
theorem lw_p18 : lw_okq (⟨"StoneMeet$Parser", "truth", "(I)Z"⟩, 16) := ⟨⟨by decide +kernel, by decide +kernel⟩, List.mem_of_getElem? (i := 31) (by decide +kernel), List.mem_of_getElem? (i := 730) (by decide +kernel), List.mem_of_getElem? (i := 731) (by decide +kernel)⟩
theorem lw_p19 : lw_okq (⟨"StoneMeet$Parser", "both", "(I)Z"⟩, 16) := ⟨⟨by decide +kernel, by decide +kernel⟩, List.mem_of_getElem? (i := 31) (by decide +kernel), List.mem_of_getElem? (i := 734) (by decide +kernel), List.mem_of_getElem? (i := 735) (by decide +kernel)⟩
theorem lw_p20 : lw_okq (⟨"StoneMeet$Parser", "unit", "(I)Z"⟩, 16) := ⟨⟨by decide +kernel, by decide +kernel⟩, List.mem_of_getElem? (i := 31) (by decide +kernel), List.mem_of_getElem? (i := 738) (by decide +kernel), List.mem_of_getElem? (i := 739) (by decide +kernel)⟩
theorem lw_p21 : lw_okq (⟨"StoneMeet$Parser", "put", "(I)V"⟩, 16) := ⟨⟨by decide +kernel, by decide +kernel⟩, List.mem_of_getElem? (i := 31) (by decide +kernel), List.mem_of_getElem? (i := 743) (by decide +kernel), List.mem_of_getElem? (i := 744) (by decide +kernel)⟩
theorem lw_p22 : lw_okq (⟨"StoneMeet$Parser", "comparison", "(I)Z"⟩, 16) := ⟨⟨by decide +kernel, by decide +kernel⟩, List.mem_of_getElem? (i := 31) (by decide +kernel), List.mem_of_getElem? (i := 749) (by decide +kernel), List.mem_of_getElem? (i := 750) (by decide +kernel)⟩
theorem lw_p23 : lw_okq (⟨"StoneMeet$Parser", "word", "()I"⟩, 16) := ⟨⟨by decide +kernel, by decide +kernel⟩, List.mem_of_getElem? (i := 31) (by decide +kernel), List.mem_of_getElem? (i := 761) (by decide +kernel), List.mem_of_getElem? (i := 762) (by decide +kernel)⟩
theorem lw_p24 : lw_okq (⟨"StoneMeet$Parser", "wordOfGrows", "()I"⟩, 16) := ⟨⟨by decide +kernel, by decide +kernel⟩, List.mem_of_getElem? (i := 31) (by decide +kernel), List.mem_of_getElem? (i := 766) (by decide +kernel), List.mem_of_getElem? (i := 767) (by decide +kernel)⟩
theorem lw_p25 : lw_okq (⟨"StoneMeet$Parser", "wordOfFalls", "()I"⟩, 16) := ⟨⟨by decide +kernel, by decide +kernel⟩, List.mem_of_getElem? (i := 31) (by decide +kernel), List.mem_of_getElem? (i := 770) (by decide +kernel), List.mem_of_getElem? (i := 771) (by decide +kernel)⟩
theorem lw_p26 : lw_okq (⟨"StoneMeet$Parser", "isAtPlusOrMinus", "()Z"⟩, 16) := ⟨⟨by decide +kernel, by decide +kernel⟩, List.mem_of_getElem? (i := 31) (by decide +kernel), List.mem_of_getElem? (i := 777) (by decide +kernel), List.mem_of_getElem? (i := 778) (by decide +kernel)⟩
theorem lw_p27 : lw_okq (⟨"StoneMeet$Parser", "tellFalls", "()Z"⟩, 16) := ⟨⟨by decide +kernel, by decide +kernel⟩, List.mem_of_getElem? (i := 31) (by decide +kernel), List.mem_of_getElem? (i := 795) (by decide +kernel), List.mem_of_getElem? (i := 796) (by decide +kernel)⟩
theorem lw_p28 : lw_okq (⟨"StoneMeet", "isPair", "(I)Z"⟩, 19) := ⟨⟨by decide +kernel, by decide +kernel⟩, List.mem_of_getElem? (i := 23) (by decide +kernel), List.mem_of_getElem? (i := 817) (by decide +kernel), List.mem_of_getElem? (i := 818) (by decide +kernel)⟩
theorem lw_p29 : lw_okq (⟨"StoneMeet", "tuned", "()LStoneMeet$Course;"⟩, 19) := ⟨⟨by decide +kernel, by decide +kernel⟩, List.mem_of_getElem? (i := 23) (by decide +kernel), List.mem_of_getElem? (i := 835) (by decide +kernel), List.mem_of_getElem? (i := 836) (by decide +kernel)⟩
theorem lw_p30 : lw_okq (⟨"StoneMeet$Course", "know", "(II)V"⟩, 7) := ⟨⟨by decide +kernel, by decide +kernel⟩, List.mem_of_getElem? (i := 265) (by decide +kernel), List.mem_of_getElem? (i := 855) (by decide +kernel), List.mem_of_getElem? (i := 856) (by decide +kernel)⟩
theorem lw_p31 : lw_okq (⟨"StoneMeet", "passYear", "(LStoneMeet$Stand;I)I"⟩, 19) := ⟨⟨by decide +kernel, by decide +kernel⟩, List.mem_of_getElem? (i := 23) (by decide +kernel), List.mem_of_getElem? (i := 893) (by decide +kernel), List.mem_of_getElem? (i := 894) (by decide +kernel)⟩
def lw_privs_2 : List (MethodName × Nat) := [(⟨"StoneMeet$Parser", "goInto", "(I)Z"⟩, 16), (⟨"StoneMeet$Parser", "choice", "(I)Z"⟩, 16), (⟨"StoneMeet$Parser", "truth", "(I)Z"⟩, 16), (⟨"StoneMeet$Parser", "both", "(I)Z"⟩, 16), (⟨"StoneMeet$Parser", "unit", "(I)Z"⟩, 16), (⟨"StoneMeet$Parser", "put", "(I)V"⟩, 16), (⟨"StoneMeet$Parser", "comparison", "(I)Z"⟩, 16), (⟨"StoneMeet$Parser", "word", "()I"⟩, 16), (⟨"StoneMeet$Parser", "wordOfGrows", "()I"⟩, 16), (⟨"StoneMeet$Parser", "wordOfFalls", "()I"⟩, 16), (⟨"StoneMeet$Parser", "isAtPlusOrMinus", "()Z"⟩, 16), (⟨"StoneMeet$Parser", "tellFalls", "()Z"⟩, 16), (⟨"StoneMeet", "isPair", "(I)Z"⟩, 19), (⟨"StoneMeet", "tuned", "()LStoneMeet$Course;"⟩, 19), (⟨"StoneMeet$Course", "know", "(II)V"⟩, 7), (⟨"StoneMeet", "passYear", "(LStoneMeet$Stand;I)I"⟩, 19)]
theorem lw_r2 : ∀ q ∈ lw_privs_2, lw_okq q := List.forall_mem_cons.mpr ⟨lw_p16, List.forall_mem_cons.mpr ⟨lw_p17, List.forall_mem_cons.mpr ⟨lw_p18, List.forall_mem_cons.mpr ⟨lw_p19, List.forall_mem_cons.mpr ⟨lw_p20, List.forall_mem_cons.mpr ⟨lw_p21, List.forall_mem_cons.mpr ⟨lw_p22, List.forall_mem_cons.mpr ⟨lw_p23, List.forall_mem_cons.mpr ⟨lw_p24, List.forall_mem_cons.mpr ⟨lw_p25, List.forall_mem_cons.mpr ⟨lw_p26, List.forall_mem_cons.mpr ⟨lw_p27, List.forall_mem_cons.mpr ⟨lw_p28, List.forall_mem_cons.mpr ⟨lw_p29, List.forall_mem_cons.mpr ⟨lw_p30, List.forall_mem_cons.mpr ⟨lw_p31, fun _ h => absurd h List.not_mem_nil⟩⟩⟩⟩⟩⟩⟩⟩⟩⟩⟩⟩⟩⟩⟩⟩
theorem lw_p32 : lw_okq (⟨"StoneMeet$Course", "collapses", "(II)Z"⟩, 7) := ⟨⟨by decide +kernel, by decide +kernel⟩, List.mem_of_getElem? (i := 265) (by decide +kernel), List.mem_of_getElem? (i := 908) (by decide +kernel), List.mem_of_getElem? (i := 909) (by decide +kernel)⟩
theorem lw_p33 : lw_okq (⟨"StoneMeet", "leadOtherwise", "(LStoneMeet$Stand;I)I"⟩, 19) := ⟨⟨by decide +kernel, by decide +kernel⟩, List.mem_of_getElem? (i := 23) (by decide +kernel), List.mem_of_getElem? (i := 930) (by decide +kernel), List.mem_of_getElem? (i := 931) (by decide +kernel)⟩
theorem lw_p34 : lw_okq (⟨"StoneMeet", "sawOff", "(LStoneMeet$Stand;I)I"⟩, 19) := ⟨⟨by decide +kernel, by decide +kernel⟩, List.mem_of_getElem? (i := 23) (by decide +kernel), List.mem_of_getElem? (i := 942) (by decide +kernel), List.mem_of_getElem? (i := 943) (by decide +kernel)⟩
theorem lw_p35 : lw_okq (⟨"StoneMeet", "giveChalk", "(LStoneMeet$Stand;II)I"⟩, 19) := ⟨⟨by decide +kernel, by decide +kernel⟩, List.mem_of_getElem? (i := 23) (by decide +kernel), List.mem_of_getElem? (i := 953) (by decide +kernel), List.mem_of_getElem? (i := 954) (by decide +kernel)⟩
theorem lw_p36 : lw_okq (⟨"StoneMeet", "act", "(LStoneMeet$Stand;J)I"⟩, 19) := ⟨⟨by decide +kernel, by decide +kernel⟩, List.mem_of_getElem? (i := 23) (by decide +kernel), List.mem_of_getElem? (i := 976) (by decide +kernel), List.mem_of_getElem? (i := 977) (by decide +kernel)⟩
theorem lw_p37 : lw_okq (⟨"StoneMeet", "drawDeed", "()I"⟩, 19) := ⟨⟨by decide +kernel, by decide +kernel⟩, List.mem_of_getElem? (i := 23) (by decide +kernel), List.mem_of_getElem? (i := 999) (by decide +kernel), List.mem_of_getElem? (i := 1000) (by decide +kernel)⟩
theorem lw_p38 : lw_okq (⟨"StoneMeet", "draw", "()I"⟩, 19) := ⟨⟨by decide +kernel, by decide +kernel⟩, List.mem_of_getElem? (i := 23) (by decide +kernel), List.mem_of_getElem? (i := 1003) (by decide +kernel), List.mem_of_getElem? (i := 1004) (by decide +kernel)⟩
theorem lw_p39 : lw_okq (⟨"StoneMeet$Walk", "start", "(II)V"⟩, 7) := ⟨⟨by decide +kernel, by decide +kernel⟩, List.mem_of_getElem? (i := 293) (by decide +kernel), List.mem_of_getElem? (i := 1017) (by decide +kernel), List.mem_of_getElem? (i := 1018) (by decide +kernel)⟩
theorem lw_p40 : lw_okq (⟨"StoneMeet$Walk", "step", "()Z"⟩, 7) := ⟨⟨by decide +kernel, by decide +kernel⟩, List.mem_of_getElem? (i := 293) (by decide +kernel), List.mem_of_getElem? (i := 1021) (by decide +kernel), List.mem_of_getElem? (i := 1022) (by decide +kernel)⟩
theorem lw_p41 : lw_okq (⟨"StoneMeet", "countEarlier", "(I)I"⟩, 19) := ⟨⟨by decide +kernel, by decide +kernel⟩, List.mem_of_getElem? (i := 23) (by decide +kernel), List.mem_of_getElem? (i := 1048) (by decide +kernel), List.mem_of_getElem? (i := 1049) (by decide +kernel)⟩
theorem lw_p42 : lw_okq (⟨"StoneMeet", "isSet", "(I)Z"⟩, 19) := ⟨⟨by decide +kernel, by decide +kernel⟩, List.mem_of_getElem? (i := 23) (by decide +kernel), List.mem_of_getElem? (i := 1070) (by decide +kernel), List.mem_of_getElem? (i := 1071) (by decide +kernel)⟩
theorem lw_p43 : lw_okq (⟨"StoneMeet", "searching", "()LStoneMeet$Search;"⟩, 19) := ⟨⟨by decide +kernel, by decide +kernel⟩, List.mem_of_getElem? (i := 23) (by decide +kernel), List.mem_of_getElem? (i := 1074) (by decide +kernel), List.mem_of_getElem? (i := 1075) (by decide +kernel)⟩
theorem lw_p44 : lw_okq (⟨"StoneMeet$Search", "reachGoal", "(II)I"⟩, 17) := ⟨⟨by decide +kernel, by decide +kernel⟩, List.mem_of_getElem? (i := 372) (by decide +kernel), List.mem_of_getElem? (i := 1087) (by decide +kernel), List.mem_of_getElem? (i := 1088) (by decide +kernel)⟩
theorem lw_p45 : lw_okq (⟨"StoneMeet$Search", "begin", "()V"⟩, 17) := ⟨⟨by decide +kernel, by decide +kernel⟩, List.mem_of_getElem? (i := 372) (by decide +kernel), List.mem_of_getElem? (i := 1091) (by decide +kernel), List.mem_of_getElem? (i := 1092) (by decide +kernel)⟩
theorem lw_p46 : lw_okq (⟨"StoneMeet$Search", "reach", "(II)V"⟩, 17) := ⟨⟨by decide +kernel, by decide +kernel⟩, List.mem_of_getElem? (i := 372) (by decide +kernel), List.mem_of_getElem? (i := 1095) (by decide +kernel), List.mem_of_getElem? (i := 1096) (by decide +kernel)⟩
theorem lw_p47 : lw_okq (⟨"StoneMeet$Search", "isGoal", "(II)Z"⟩, 17) := ⟨⟨by decide +kernel, by decide +kernel⟩, List.mem_of_getElem? (i := 372) (by decide +kernel), List.mem_of_getElem? (i := 1102) (by decide +kernel), List.mem_of_getElem? (i := 1103) (by decide +kernel)⟩
def lw_privs_3 : List (MethodName × Nat) := [(⟨"StoneMeet$Course", "collapses", "(II)Z"⟩, 7), (⟨"StoneMeet", "leadOtherwise", "(LStoneMeet$Stand;I)I"⟩, 19), (⟨"StoneMeet", "sawOff", "(LStoneMeet$Stand;I)I"⟩, 19), (⟨"StoneMeet", "giveChalk", "(LStoneMeet$Stand;II)I"⟩, 19), (⟨"StoneMeet", "act", "(LStoneMeet$Stand;J)I"⟩, 19), (⟨"StoneMeet", "drawDeed", "()I"⟩, 19), (⟨"StoneMeet", "draw", "()I"⟩, 19), (⟨"StoneMeet$Walk", "start", "(II)V"⟩, 7), (⟨"StoneMeet$Walk", "step", "()Z"⟩, 7), (⟨"StoneMeet", "countEarlier", "(I)I"⟩, 19), (⟨"StoneMeet", "isSet", "(I)Z"⟩, 19), (⟨"StoneMeet", "searching", "()LStoneMeet$Search;"⟩, 19), (⟨"StoneMeet$Search", "reachGoal", "(II)I"⟩, 17), (⟨"StoneMeet$Search", "begin", "()V"⟩, 17), (⟨"StoneMeet$Search", "reach", "(II)V"⟩, 17), (⟨"StoneMeet$Search", "isGoal", "(II)Z"⟩, 17)]
theorem lw_r3 : ∀ q ∈ lw_privs_3, lw_okq q := List.forall_mem_cons.mpr ⟨lw_p32, List.forall_mem_cons.mpr ⟨lw_p33, List.forall_mem_cons.mpr ⟨lw_p34, List.forall_mem_cons.mpr ⟨lw_p35, List.forall_mem_cons.mpr ⟨lw_p36, List.forall_mem_cons.mpr ⟨lw_p37, List.forall_mem_cons.mpr ⟨lw_p38, List.forall_mem_cons.mpr ⟨lw_p39, List.forall_mem_cons.mpr ⟨lw_p40, List.forall_mem_cons.mpr ⟨lw_p41, List.forall_mem_cons.mpr ⟨lw_p42, List.forall_mem_cons.mpr ⟨lw_p43, List.forall_mem_cons.mpr ⟨lw_p44, List.forall_mem_cons.mpr ⟨lw_p45, List.forall_mem_cons.mpr ⟨lw_p46, List.forall_mem_cons.mpr ⟨lw_p47, fun _ h => absurd h List.not_mem_nil⟩⟩⟩⟩⟩⟩⟩⟩⟩⟩⟩⟩⟩⟩⟩⟩
theorem lw_p48 : lw_okq (⟨"StoneMeet$Search", "isNew", "(I)Z"⟩, 17) := ⟨⟨by decide +kernel, by decide +kernel⟩, List.mem_of_getElem? (i := 372) (by decide +kernel), List.mem_of_getElem? (i := 1111) (by decide +kernel), List.mem_of_getElem? (i := 1112) (by decide +kernel)⟩
theorem lw_p49 : lw_okq (⟨"StoneMeet$Search", "linkOf", "(I)I"⟩, 17) := ⟨⟨by decide +kernel, by decide +kernel⟩, List.mem_of_getElem? (i := 372) (by decide +kernel), List.mem_of_getElem? (i := 1119) (by decide +kernel), List.mem_of_getElem? (i := 1120) (by decide +kernel)⟩
theorem lw_p50 : lw_okq (⟨"StoneMeet$Search", "rowsOf", "(I)J"⟩, 17) := ⟨⟨by decide +kernel, by decide +kernel⟩, List.mem_of_getElem? (i := 372) (by decide +kernel), List.mem_of_getElem? (i := 1145) (by decide +kernel), List.mem_of_getElem? (i := 1146) (by decide +kernel)⟩
theorem lw_p51 : lw_okq (⟨"StoneMeet$Search", "passOn", "(IJI)V"⟩, 17) := ⟨⟨by decide +kernel, by decide +kernel⟩, List.mem_of_getElem? (i := 372) (by decide +kernel), List.mem_of_getElem? (i := 1149) (by decide +kernel), List.mem_of_getElem? (i := 1150) (by decide +kernel)⟩
theorem lw_p52 : lw_okq (⟨"StoneMeet$Search", "leaveFor", "(II)V"⟩, 17) := ⟨⟨by decide +kernel, by decide +kernel⟩, List.mem_of_getElem? (i := 372) (by decide +kernel), List.mem_of_getElem? (i := 1171) (by decide +kernel), List.mem_of_getElem? (i := 1172) (by decide +kernel)⟩
theorem lw_p53 : lw_okq (⟨"StoneMeet", "seenRefusal", "(II)I"⟩, 19) := ⟨⟨by decide +kernel, by decide +kernel⟩, List.mem_of_getElem? (i := 23) (by decide +kernel), List.mem_of_getElem? (i := 1187) (by decide +kernel), List.mem_of_getElem? (i := 1188) (by decide +kernel)⟩
theorem lw_p54 : lw_okq (⟨"StoneMeet", "traceSeen", "(II)V"⟩, 19) := ⟨⟨by decide +kernel, by decide +kernel⟩, List.mem_of_getElem? (i := 23) (by decide +kernel), List.mem_of_getElem? (i := 1193) (by decide +kernel), List.mem_of_getElem? (i := 1194) (by decide +kernel)⟩
theorem lw_p55 : lw_okq (⟨"StoneMeet$DryRows", "follow", "(LStoneMeet$Tray;III)V"⟩, 12) := ⟨⟨by decide +kernel, by decide +kernel⟩, List.mem_of_getElem? (i := 321) (by decide +kernel), List.mem_of_getElem? (i := 1201) (by decide +kernel), List.mem_of_getElem? (i := 1202) (by decide +kernel)⟩
theorem lw_p56 : lw_okq (⟨"StoneMeet", "chalkBits", "(II)I"⟩, 19) := ⟨⟨by decide +kernel, by decide +kernel⟩, List.mem_of_getElem? (i := 23) (by decide +kernel), List.mem_of_getElem? (i := 1221) (by decide +kernel), List.mem_of_getElem? (i := 1222) (by decide +kernel)⟩
theorem lw_p57 : lw_okq (⟨"StoneMeet", "mostAlike", "(III)I"⟩, 19) := ⟨⟨by decide +kernel, by decide +kernel⟩, List.mem_of_getElem? (i := 23) (by decide +kernel), List.mem_of_getElem? (i := 1235) (by decide +kernel), List.mem_of_getElem? (i := 1236) (by decide +kernel)⟩
theorem lw_p58 : lw_okq (⟨"StoneMeet$Search", "tellLeastYears", "(I)V"⟩, 17) := ⟨⟨by decide +kernel, by decide +kernel⟩, List.mem_of_getElem? (i := 372) (by decide +kernel), List.mem_of_getElem? (i := 1249) (by decide +kernel), List.mem_of_getElem? (i := 1250) (by decide +kernel)⟩
theorem lw_p59 : lw_okq (⟨"StoneMeet$Search", "mayBeForced", "(III)Z"⟩, 17) := ⟨⟨by decide +kernel, by decide +kernel⟩, List.mem_of_getElem? (i := 372) (by decide +kernel), List.mem_of_getElem? (i := 1254) (by decide +kernel), List.mem_of_getElem? (i := 1255) (by decide +kernel)⟩
theorem lw_p60 : lw_okq (⟨"StoneMeet$Search", "reachByTurns", "(II)V"⟩, 17) := ⟨⟨by decide +kernel, by decide +kernel⟩, List.mem_of_getElem? (i := 372) (by decide +kernel), List.mem_of_getElem? (i := 1261) (by decide +kernel), List.mem_of_getElem? (i := 1262) (by decide +kernel)⟩
theorem lw_p61 : lw_okq (⟨"StoneMeet$Search", "reachOpen", "(II)V"⟩, 17) := ⟨⟨by decide +kernel, by decide +kernel⟩, List.mem_of_getElem? (i := 372) (by decide +kernel), List.mem_of_getElem? (i := 1265) (by decide +kernel), List.mem_of_getElem? (i := 1266) (by decide +kernel)⟩
theorem lw_p62 : lw_okq (⟨"StoneMeet$Search", "isForced", "(III)Z"⟩, 17) := ⟨⟨by decide +kernel, by decide +kernel⟩, List.mem_of_getElem? (i := 372) (by decide +kernel), List.mem_of_getElem? (i := 1273) (by decide +kernel), List.mem_of_getElem? (i := 1274) (by decide +kernel)⟩
theorem lw_p63 : lw_okq (⟨"StoneMeet", "weighYears", "(II)V"⟩, 19) := ⟨⟨by decide +kernel, by decide +kernel⟩, List.mem_of_getElem? (i := 23) (by decide +kernel), List.mem_of_getElem? (i := 1289) (by decide +kernel), List.mem_of_getElem? (i := 1290) (by decide +kernel)⟩
def lw_privs_4 : List (MethodName × Nat) := [(⟨"StoneMeet$Search", "isNew", "(I)Z"⟩, 17), (⟨"StoneMeet$Search", "linkOf", "(I)I"⟩, 17), (⟨"StoneMeet$Search", "rowsOf", "(I)J"⟩, 17), (⟨"StoneMeet$Search", "passOn", "(IJI)V"⟩, 17), (⟨"StoneMeet$Search", "leaveFor", "(II)V"⟩, 17), (⟨"StoneMeet", "seenRefusal", "(II)I"⟩, 19), (⟨"StoneMeet", "traceSeen", "(II)V"⟩, 19), (⟨"StoneMeet$DryRows", "follow", "(LStoneMeet$Tray;III)V"⟩, 12), (⟨"StoneMeet", "chalkBits", "(II)I"⟩, 19), (⟨"StoneMeet", "mostAlike", "(III)I"⟩, 19), (⟨"StoneMeet$Search", "tellLeastYears", "(I)V"⟩, 17), (⟨"StoneMeet$Search", "mayBeForced", "(III)Z"⟩, 17), (⟨"StoneMeet$Search", "reachByTurns", "(II)V"⟩, 17), (⟨"StoneMeet$Search", "reachOpen", "(II)V"⟩, 17), (⟨"StoneMeet$Search", "isForced", "(III)Z"⟩, 17), (⟨"StoneMeet", "weighYears", "(II)V"⟩, 19)]
theorem lw_r4 : ∀ q ∈ lw_privs_4, lw_okq q := List.forall_mem_cons.mpr ⟨lw_p48, List.forall_mem_cons.mpr ⟨lw_p49, List.forall_mem_cons.mpr ⟨lw_p50, List.forall_mem_cons.mpr ⟨lw_p51, List.forall_mem_cons.mpr ⟨lw_p52, List.forall_mem_cons.mpr ⟨lw_p53, List.forall_mem_cons.mpr ⟨lw_p54, List.forall_mem_cons.mpr ⟨lw_p55, List.forall_mem_cons.mpr ⟨lw_p56, List.forall_mem_cons.mpr ⟨lw_p57, List.forall_mem_cons.mpr ⟨lw_p58, List.forall_mem_cons.mpr ⟨lw_p59, List.forall_mem_cons.mpr ⟨lw_p60, List.forall_mem_cons.mpr ⟨lw_p61, List.forall_mem_cons.mpr ⟨lw_p62, List.forall_mem_cons.mpr ⟨lw_p63, fun _ h => absurd h List.not_mem_nil⟩⟩⟩⟩⟩⟩⟩⟩⟩⟩⟩⟩⟩⟩⟩⟩
theorem lw_p64 : lw_okq (⟨"StoneMeet$DryRows", "spreadWeight", "(IIJ)V"⟩, 12) := ⟨⟨by decide +kernel, by decide +kernel⟩, List.mem_of_getElem? (i := 321) (by decide +kernel), List.mem_of_getElem? (i := 1298) (by decide +kernel), List.mem_of_getElem? (i := 1299) (by decide +kernel)⟩
theorem lw_p65 : lw_okq (⟨"StoneMeet$Tray", "cut", "(J)J"⟩, 4) := ⟨⟨by decide +kernel, by decide +kernel⟩, List.mem_of_getElem? (i := 431) (by decide +kernel), List.mem_of_getElem? (i := 1336) (by decide +kernel), List.mem_of_getElem? (i := 1337) (by decide +kernel)⟩
theorem lw_p66 : lw_okq (⟨"StoneMeetModel", "next", "()V"⟩, 41) := ⟨⟨by decide +kernel, by decide +kernel⟩, List.mem_of_getElem? (i := 1356) (by decide +kernel), List.mem_of_getElem? (i := 1502) (by decide +kernel), List.mem_of_getElem? (i := 1503) (by decide +kernel)⟩
theorem lw_p67 : lw_okq (⟨"StoneMeetModel", "see", "(I)I"⟩, 41) := ⟨⟨by decide +kernel, by decide +kernel⟩, List.mem_of_getElem? (i := 1356) (by decide +kernel), List.mem_of_getElem? (i := 1506) (by decide +kernel), List.mem_of_getElem? (i := 1507) (by decide +kernel)⟩
theorem lw_p68 : lw_okq (⟨"StoneMeetModel", "keyAt", "()I"⟩, 41) := ⟨⟨by decide +kernel, by decide +kernel⟩, List.mem_of_getElem? (i := 1356) (by decide +kernel), List.mem_of_getElem? (i := 1513) (by decide +kernel), List.mem_of_getElem? (i := 1514) (by decide +kernel)⟩
theorem lw_p69 : lw_okq (⟨"StoneMeetModel", "eats", "(I)Z"⟩, 41) := ⟨⟨by decide +kernel, by decide +kernel⟩, List.mem_of_getElem? (i := 1356) (by decide +kernel), List.mem_of_getElem? (i := 1524) (by decide +kernel), List.mem_of_getElem? (i := 1525) (by decide +kernel)⟩
theorem lw_p70 : lw_okq (⟨"StoneMeetModel", "is", "(I)Z"⟩, 41) := ⟨⟨by decide +kernel, by decide +kernel⟩, List.mem_of_getElem? (i := 1356) (by decide +kernel), List.mem_of_getElem? (i := 1528) (by decide +kernel), List.mem_of_getElem? (i := 1529) (by decide +kernel)⟩
theorem lw_p71 : lw_okq (⟨"StoneMeetModel", "fails", "(I)V"⟩, 41) := ⟨⟨by decide +kernel, by decide +kernel⟩, List.mem_of_getElem? (i := 1356) (by decide +kernel), List.mem_of_getElem? (i := 1532) (by decide +kernel), List.mem_of_getElem? (i := 1533) (by decide +kernel)⟩
theorem lw_p72 : lw_okq (⟨"StoneMeetModel", "takes", "(II)I"⟩, 41) := ⟨⟨by decide +kernel, by decide +kernel⟩, List.mem_of_getElem? (i := 1356) (by decide +kernel), List.mem_of_getElem? (i := 1536) (by decide +kernel), List.mem_of_getElem? (i := 1537) (by decide +kernel)⟩
theorem lw_p73 : lw_okq (⟨"StoneMeetModel", "ends", "()V"⟩, 41) := ⟨⟨by decide +kernel, by decide +kernel⟩, List.mem_of_getElem? (i := 1356) (by decide +kernel), List.mem_of_getElem? (i := 1540) (by decide +kernel), List.mem_of_getElem? (i := 1541) (by decide +kernel)⟩
theorem lw_p74 : lw_okq (⟨"StoneMeetModel", "readLine", "()V"⟩, 41) := ⟨⟨by decide +kernel, by decide +kernel⟩, List.mem_of_getElem? (i := 1356) (by decide +kernel), List.mem_of_getElem? (i := 1544) (by decide +kernel), List.mem_of_getElem? (i := 1545) (by decide +kernel)⟩
theorem lw_p75 : lw_okq (⟨"StoneMeetModel", "readPair", "()V"⟩, 41) := ⟨⟨by decide +kernel, by decide +kernel⟩, List.mem_of_getElem? (i := 1356) (by decide +kernel), List.mem_of_getElem? (i := 1548) (by decide +kernel), List.mem_of_getElem? (i := 1549) (by decide +kernel)⟩
theorem lw_p76 : lw_okq (⟨"StoneMeetModel", "readLead", "()V"⟩, 41) := ⟨⟨by decide +kernel, by decide +kernel⟩, List.mem_of_getElem? (i := 1356) (by decide +kernel), List.mem_of_getElem? (i := 1552) (by decide +kernel), List.mem_of_getElem? (i := 1553) (by decide +kernel)⟩
theorem lw_p77 : lw_okq (⟨"StoneMeetModel", "readLaw", "(I)V"⟩, 41) := ⟨⟨by decide +kernel, by decide +kernel⟩, List.mem_of_getElem? (i := 1356) (by decide +kernel), List.mem_of_getElem? (i := 1556) (by decide +kernel), List.mem_of_getElem? (i := 1557) (by decide +kernel)⟩
theorem lw_p78 : lw_okq (⟨"StoneMeetModel", "readSum", "(I)V"⟩, 41) := ⟨⟨by decide +kernel, by decide +kernel⟩, List.mem_of_getElem? (i := 1356) (by decide +kernel), List.mem_of_getElem? (i := 1560) (by decide +kernel), List.mem_of_getElem? (i := 1561) (by decide +kernel)⟩
theorem lw_p79 : lw_okq (⟨"StoneMeetModel", "readTerm", "(I)V"⟩, 41) := ⟨⟨by decide +kernel, by decide +kernel⟩, List.mem_of_getElem? (i := 1356) (by decide +kernel), List.mem_of_getElem? (i := 1564) (by decide +kernel), List.mem_of_getElem? (i := 1565) (by decide +kernel)⟩
def lw_privs_5 : List (MethodName × Nat) := [(⟨"StoneMeet$DryRows", "spreadWeight", "(IIJ)V"⟩, 12), (⟨"StoneMeet$Tray", "cut", "(J)J"⟩, 4), (⟨"StoneMeetModel", "next", "()V"⟩, 41), (⟨"StoneMeetModel", "see", "(I)I"⟩, 41), (⟨"StoneMeetModel", "keyAt", "()I"⟩, 41), (⟨"StoneMeetModel", "eats", "(I)Z"⟩, 41), (⟨"StoneMeetModel", "is", "(I)Z"⟩, 41), (⟨"StoneMeetModel", "fails", "(I)V"⟩, 41), (⟨"StoneMeetModel", "takes", "(II)I"⟩, 41), (⟨"StoneMeetModel", "ends", "()V"⟩, 41), (⟨"StoneMeetModel", "readLine", "()V"⟩, 41), (⟨"StoneMeetModel", "readPair", "()V"⟩, 41), (⟨"StoneMeetModel", "readLead", "()V"⟩, 41), (⟨"StoneMeetModel", "readLaw", "(I)V"⟩, 41), (⟨"StoneMeetModel", "readSum", "(I)V"⟩, 41), (⟨"StoneMeetModel", "readTerm", "(I)V"⟩, 41)]
theorem lw_r5 : ∀ q ∈ lw_privs_5, lw_okq q := List.forall_mem_cons.mpr ⟨lw_p64, List.forall_mem_cons.mpr ⟨lw_p65, List.forall_mem_cons.mpr ⟨lw_p66, List.forall_mem_cons.mpr ⟨lw_p67, List.forall_mem_cons.mpr ⟨lw_p68, List.forall_mem_cons.mpr ⟨lw_p69, List.forall_mem_cons.mpr ⟨lw_p70, List.forall_mem_cons.mpr ⟨lw_p71, List.forall_mem_cons.mpr ⟨lw_p72, List.forall_mem_cons.mpr ⟨lw_p73, List.forall_mem_cons.mpr ⟨lw_p74, List.forall_mem_cons.mpr ⟨lw_p75, List.forall_mem_cons.mpr ⟨lw_p76, List.forall_mem_cons.mpr ⟨lw_p77, List.forall_mem_cons.mpr ⟨lw_p78, List.forall_mem_cons.mpr ⟨lw_p79, fun _ h => absurd h List.not_mem_nil⟩⟩⟩⟩⟩⟩⟩⟩⟩⟩⟩⟩⟩⟩⟩⟩
theorem lw_p80 : lw_okq (⟨"StoneMeetModel", "readAtom", "(I)V"⟩, 41) := ⟨⟨by decide +kernel, by decide +kernel⟩, List.mem_of_getElem? (i := 1356) (by decide +kernel), List.mem_of_getElem? (i := 1568) (by decide +kernel), List.mem_of_getElem? (i := 1569) (by decide +kernel)⟩
theorem lw_p81 : lw_okq (⟨"StoneMeetModel", "codes", "(I)V"⟩, 41) := ⟨⟨by decide +kernel, by decide +kernel⟩, List.mem_of_getElem? (i := 1356) (by decide +kernel), List.mem_of_getElem? (i := 1572) (by decide +kernel), List.mem_of_getElem? (i := 1573) (by decide +kernel)⟩
theorem lw_p82 : lw_okq (⟨"StoneMeetModel", "wordOf", "(I)I"⟩, 41) := ⟨⟨by decide +kernel, by decide +kernel⟩, List.mem_of_getElem? (i := 1356) (by decide +kernel), List.mem_of_getElem? (i := 1576) (by decide +kernel), List.mem_of_getElem? (i := 1577) (by decide +kernel)⟩
theorem lw_p83 : lw_okq (⟨"StoneMeetModel", "goesIn", "(I)Z"⟩, 41) := ⟨⟨by decide +kernel, by decide +kernel⟩, List.mem_of_getElem? (i := 1356) (by decide +kernel), List.mem_of_getElem? (i := 1580) (by decide +kernel), List.mem_of_getElem? (i := 1581) (by decide +kernel)⟩
theorem lw_p84 : lw_okq (⟨"StoneMeetModel", "readIf", "(I)V"⟩, 41) := ⟨⟨by decide +kernel, by decide +kernel⟩, List.mem_of_getElem? (i := 1356) (by decide +kernel), List.mem_of_getElem? (i := 1584) (by decide +kernel), List.mem_of_getElem? (i := 1585) (by decide +kernel)⟩
theorem lw_p85 : lw_okq (⟨"StoneMeetModel", "readTruth", "(I)V"⟩, 41) := ⟨⟨by decide +kernel, by decide +kernel⟩, List.mem_of_getElem? (i := 1356) (by decide +kernel), List.mem_of_getElem? (i := 1588) (by decide +kernel), List.mem_of_getElem? (i := 1589) (by decide +kernel)⟩
theorem lw_p86 : lw_okq (⟨"StoneMeetModel", "readBoth", "(I)V"⟩, 41) := ⟨⟨by decide +kernel, by decide +kernel⟩, List.mem_of_getElem? (i := 1356) (by decide +kernel), List.mem_of_getElem? (i := 1592) (by decide +kernel), List.mem_of_getElem? (i := 1593) (by decide +kernel)⟩
theorem lw_p87 : lw_okq (⟨"StoneMeetModel", "readUnit", "(I)V"⟩, 41) := ⟨⟨by decide +kernel, by decide +kernel⟩, List.mem_of_getElem? (i := 1356) (by decide +kernel), List.mem_of_getElem? (i := 1596) (by decide +kernel), List.mem_of_getElem? (i := 1597) (by decide +kernel)⟩
theorem lw_p88 : lw_okq (⟨"StoneMeetModel", "isPair", "(J)Z"⟩, 41) := ⟨⟨by decide +kernel, by decide +kernel⟩, List.mem_of_getElem? (i := 1356) (by decide +kernel), List.mem_of_getElem? (i := 1608) (by decide +kernel), List.mem_of_getElem? (i := 1609) (by decide +kernel)⟩
theorem lw_p89 : lw_okq (⟨"StoneMeetModel", "standNow", "()I"⟩, 41) := ⟨⟨by decide +kernel, by decide +kernel⟩, List.mem_of_getElem? (i := 1356) (by decide +kernel), List.mem_of_getElem? (i := 1625) (by decide +kernel), List.mem_of_getElem? (i := 1626) (by decide +kernel)⟩
theorem lw_p90 : lw_okq (⟨"StoneMeetModel", "metIn", "(I)I"⟩, 41) := ⟨⟨by decide +kernel, by decide +kernel⟩, List.mem_of_getElem? (i := 1356) (by decide +kernel), List.mem_of_getElem? (i := 1629) (by decide +kernel), List.mem_of_getElem? (i := 1630) (by decide +kernel)⟩
theorem lw_p91 : lw_okq (⟨"StoneMeetModel", "growsBy", "(IIIIII)I"⟩, 41) := ⟨⟨by decide +kernel, by decide +kernel⟩, List.mem_of_getElem? (i := 1356) (by decide +kernel), List.mem_of_getElem? (i := 1639) (by decide +kernel), List.mem_of_getElem? (i := 1640) (by decide +kernel)⟩
theorem lw_p92 : lw_okq (⟨"StoneMeetModel", "reckons", "(I)I"⟩, 41) := ⟨⟨by decide +kernel, by decide +kernel⟩, List.mem_of_getElem? (i := 1356) (by decide +kernel), List.mem_of_getElem? (i := 1643) (by decide +kernel), List.mem_of_getElem? (i := 1644) (by decide +kernel)⟩
theorem lw_p93 : lw_okq (⟨"StoneMeetModel", "laysLeads", "()V"⟩, 41) := ⟨⟨by decide +kernel, by decide +kernel⟩, List.mem_of_getElem? (i := 1356) (by decide +kernel), List.mem_of_getElem? (i := 1656) (by decide +kernel), List.mem_of_getElem? (i := 1657) (by decide +kernel)⟩
theorem lw_p94 : lw_okq (⟨"StoneMeetModel", "isLead", "(J)Z"⟩, 41) := ⟨⟨by decide +kernel, by decide +kernel⟩, List.mem_of_getElem? (i := 1356) (by decide +kernel), List.mem_of_getElem? (i := 1660) (by decide +kernel), List.mem_of_getElem? (i := 1661) (by decide +kernel)⟩
theorem lw_p95 : lw_okq (⟨"StoneMeetModel", "keeps", "()V"⟩, 41) := ⟨⟨by decide +kernel, by decide +kernel⟩, List.mem_of_getElem? (i := 1356) (by decide +kernel), List.mem_of_getElem? (i := 1669) (by decide +kernel), List.mem_of_getElem? (i := 1670) (by decide +kernel)⟩
def lw_privs_6 : List (MethodName × Nat) := [(⟨"StoneMeetModel", "readAtom", "(I)V"⟩, 41), (⟨"StoneMeetModel", "codes", "(I)V"⟩, 41), (⟨"StoneMeetModel", "wordOf", "(I)I"⟩, 41), (⟨"StoneMeetModel", "goesIn", "(I)Z"⟩, 41), (⟨"StoneMeetModel", "readIf", "(I)V"⟩, 41), (⟨"StoneMeetModel", "readTruth", "(I)V"⟩, 41), (⟨"StoneMeetModel", "readBoth", "(I)V"⟩, 41), (⟨"StoneMeetModel", "readUnit", "(I)V"⟩, 41), (⟨"StoneMeetModel", "isPair", "(J)Z"⟩, 41), (⟨"StoneMeetModel", "standNow", "()I"⟩, 41), (⟨"StoneMeetModel", "metIn", "(I)I"⟩, 41), (⟨"StoneMeetModel", "growsBy", "(IIIIII)I"⟩, 41), (⟨"StoneMeetModel", "reckons", "(I)I"⟩, 41), (⟨"StoneMeetModel", "laysLeads", "()V"⟩, 41), (⟨"StoneMeetModel", "isLead", "(J)Z"⟩, 41), (⟨"StoneMeetModel", "keeps", "()V"⟩, 41)]
theorem lw_r6 : ∀ q ∈ lw_privs_6, lw_okq q := List.forall_mem_cons.mpr ⟨lw_p80, List.forall_mem_cons.mpr ⟨lw_p81, List.forall_mem_cons.mpr ⟨lw_p82, List.forall_mem_cons.mpr ⟨lw_p83, List.forall_mem_cons.mpr ⟨lw_p84, List.forall_mem_cons.mpr ⟨lw_p85, List.forall_mem_cons.mpr ⟨lw_p86, List.forall_mem_cons.mpr ⟨lw_p87, List.forall_mem_cons.mpr ⟨lw_p88, List.forall_mem_cons.mpr ⟨lw_p89, List.forall_mem_cons.mpr ⟨lw_p90, List.forall_mem_cons.mpr ⟨lw_p91, List.forall_mem_cons.mpr ⟨lw_p92, List.forall_mem_cons.mpr ⟨lw_p93, List.forall_mem_cons.mpr ⟨lw_p94, List.forall_mem_cons.mpr ⟨lw_p95, fun _ h => absurd h List.not_mem_nil⟩⟩⟩⟩⟩⟩⟩⟩⟩⟩⟩⟩⟩⟩⟩⟩
theorem lw_p96 : lw_okq (⟨"StoneMeetModel", "goesYear", "(I)V"⟩, 41) := ⟨⟨by decide +kernel, by decide +kernel⟩, List.mem_of_getElem? (i := 1356) (by decide +kernel), List.mem_of_getElem? (i := 1673) (by decide +kernel), List.mem_of_getElem? (i := 1674) (by decide +kernel)⟩
theorem lw_p97 : lw_okq (⟨"StoneMeetModel", "yearTo", "(III)I"⟩, 41) := ⟨⟨by decide +kernel, by decide +kernel⟩, List.mem_of_getElem? (i := 1356) (by decide +kernel), List.mem_of_getElem? (i := 1677) (by decide +kernel), List.mem_of_getElem? (i := 1678) (by decide +kernel)⟩
theorem lw_p98 : lw_okq (⟨"StoneMeetModel", "fallsBy", "(II)Z"⟩, 41) := ⟨⟨by decide +kernel, by decide +kernel⟩, List.mem_of_getElem? (i := 1356) (by decide +kernel), List.mem_of_getElem? (i := 1684) (by decide +kernel), List.mem_of_getElem? (i := 1685) (by decide +kernel)⟩
theorem lw_p99 : lw_okq (⟨"StoneMeetModel", "gapsIn", "(I)I"⟩, 41) := ⟨⟨by decide +kernel, by decide +kernel⟩, List.mem_of_getElem? (i := 1356) (by decide +kernel), List.mem_of_getElem? (i := 1688) (by decide +kernel), List.mem_of_getElem? (i := 1689) (by decide +kernel)⟩
theorem lw_p100 : lw_okq (⟨"StoneMeetModel", "widestIn", "(I)I"⟩, 41) := ⟨⟨by decide +kernel, by decide +kernel⟩, List.mem_of_getElem? (i := 1356) (by decide +kernel), List.mem_of_getElem? (i := 1692) (by decide +kernel), List.mem_of_getElem? (i := 1693) (by decide +kernel)⟩
theorem lw_p101 : lw_okq (⟨"StoneMeetModel", "notes", "()V"⟩, 41) := ⟨⟨by decide +kernel, by decide +kernel⟩, List.mem_of_getElem? (i := 1356) (by decide +kernel), List.mem_of_getElem? (i := 1696) (by decide +kernel), List.mem_of_getElem? (i := 1697) (by decide +kernel)⟩
theorem lw_p102 : lw_okq (⟨"StoneMeetModel", "whySaw", "(J)I"⟩, 41) := ⟨⟨by decide +kernel, by decide +kernel⟩, List.mem_of_getElem? (i := 1356) (by decide +kernel), List.mem_of_getElem? (i := 1708) (by decide +kernel), List.mem_of_getElem? (i := 1709) (by decide +kernel)⟩
theorem lw_p103 : lw_okq (⟨"StoneMeetModel", "noTray", "(I)I"⟩, 41) := ⟨⟨by decide +kernel, by decide +kernel⟩, List.mem_of_getElem? (i := 1356) (by decide +kernel), List.mem_of_getElem? (i := 1727) (by decide +kernel), List.mem_of_getElem? (i := 1728) (by decide +kernel)⟩
theorem lw_p104 : lw_okq (⟨"StoneMeetModel", "tells", "(I)I"⟩, 41) := ⟨⟨by decide +kernel, by decide +kernel⟩, List.mem_of_getElem? (i := 1356) (by decide +kernel), List.mem_of_getElem? (i := 1731) (by decide +kernel), List.mem_of_getElem? (i := 1732) (by decide +kernel)⟩
theorem lw_p105 : lw_okq (⟨"StoneMeetModel", "whyNot", "(J)I"⟩, 41) := ⟨⟨by decide +kernel, by decide +kernel⟩, List.mem_of_getElem? (i := 1356) (by decide +kernel), List.mem_of_getElem? (i := 1735) (by decide +kernel), List.mem_of_getElem? (i := 1736) (by decide +kernel)⟩
theorem lw_p106 : lw_okq (⟨"StoneMeetModel", "does", "(I)V"⟩, 41) := ⟨⟨by decide +kernel, by decide +kernel⟩, List.mem_of_getElem? (i := 1356) (by decide +kernel), List.mem_of_getElem? (i := 1744) (by decide +kernel), List.mem_of_getElem? (i := 1745) (by decide +kernel)⟩
theorem lw_p107 : lw_okq (⟨"StoneMeetModel", "isAgain", "()V"⟩, 41) := ⟨⟨by decide +kernel, by decide +kernel⟩, List.mem_of_getElem? (i := 1356) (by decide +kernel), List.mem_of_getElem? (i := 1748) (by decide +kernel), List.mem_of_getElem? (i := 1749) (by decide +kernel)⟩
theorem lw_p108 : lw_okq (⟨"StoneMeetModel", "drawn", "()I"⟩, 41) := ⟨⟨by decide +kernel, by decide +kernel⟩, List.mem_of_getElem? (i := 1356) (by decide +kernel), List.mem_of_getElem? (i := 1761) (by decide +kernel), List.mem_of_getElem? (i := 1762) (by decide +kernel)⟩
theorem lw_p109 : lw_okq (⟨"StoneMeetModel", "draw", "(I)I"⟩, 41) := ⟨⟨by decide +kernel, by decide +kernel⟩, List.mem_of_getElem? (i := 1356) (by decide +kernel), List.mem_of_getElem? (i := 1765) (by decide +kernel), List.mem_of_getElem? (i := 1766) (by decide +kernel)⟩
theorem lw_p110 : lw_okq (⟨"StoneMeetModel", "laysLed", "(I)V"⟩, 41) := ⟨⟨by decide +kernel, by decide +kernel⟩, List.mem_of_getElem? (i := 1356) (by decide +kernel), List.mem_of_getElem? (i := 1775) (by decide +kernel), List.mem_of_getElem? (i := 1776) (by decide +kernel)⟩
theorem lw_p111 : lw_okq (⟨"StoneMeetModel", "laysTables", "()V"⟩, 41) := ⟨⟨by decide +kernel, by decide +kernel⟩, List.mem_of_getElem? (i := 1356) (by decide +kernel), List.mem_of_getElem? (i := 1779) (by decide +kernel), List.mem_of_getElem? (i := 1780) (by decide +kernel)⟩
def lw_privs_7 : List (MethodName × Nat) := [(⟨"StoneMeetModel", "goesYear", "(I)V"⟩, 41), (⟨"StoneMeetModel", "yearTo", "(III)I"⟩, 41), (⟨"StoneMeetModel", "fallsBy", "(II)Z"⟩, 41), (⟨"StoneMeetModel", "gapsIn", "(I)I"⟩, 41), (⟨"StoneMeetModel", "widestIn", "(I)I"⟩, 41), (⟨"StoneMeetModel", "notes", "()V"⟩, 41), (⟨"StoneMeetModel", "whySaw", "(J)I"⟩, 41), (⟨"StoneMeetModel", "noTray", "(I)I"⟩, 41), (⟨"StoneMeetModel", "tells", "(I)I"⟩, 41), (⟨"StoneMeetModel", "whyNot", "(J)I"⟩, 41), (⟨"StoneMeetModel", "does", "(I)V"⟩, 41), (⟨"StoneMeetModel", "isAgain", "()V"⟩, 41), (⟨"StoneMeetModel", "drawn", "()I"⟩, 41), (⟨"StoneMeetModel", "draw", "(I)I"⟩, 41), (⟨"StoneMeetModel", "laysLed", "(I)V"⟩, 41), (⟨"StoneMeetModel", "laysTables", "()V"⟩, 41)]
theorem lw_r7 : ∀ q ∈ lw_privs_7, lw_okq q := List.forall_mem_cons.mpr ⟨lw_p96, List.forall_mem_cons.mpr ⟨lw_p97, List.forall_mem_cons.mpr ⟨lw_p98, List.forall_mem_cons.mpr ⟨lw_p99, List.forall_mem_cons.mpr ⟨lw_p100, List.forall_mem_cons.mpr ⟨lw_p101, List.forall_mem_cons.mpr ⟨lw_p102, List.forall_mem_cons.mpr ⟨lw_p103, List.forall_mem_cons.mpr ⟨lw_p104, List.forall_mem_cons.mpr ⟨lw_p105, List.forall_mem_cons.mpr ⟨lw_p106, List.forall_mem_cons.mpr ⟨lw_p107, List.forall_mem_cons.mpr ⟨lw_p108, List.forall_mem_cons.mpr ⟨lw_p109, List.forall_mem_cons.mpr ⟨lw_p110, List.forall_mem_cons.mpr ⟨lw_p111, fun _ h => absurd h List.not_mem_nil⟩⟩⟩⟩⟩⟩⟩⟩⟩⟩⟩⟩⟩⟩⟩⟩
theorem lw_p112 : lw_okq (⟨"StoneMeetModel", "fallsSo", "(IIII)Z"⟩, 41) := ⟨⟨by decide +kernel, by decide +kernel⟩, List.mem_of_getElem? (i := 1356) (by decide +kernel), List.mem_of_getElem? (i := 1789) (by decide +kernel), List.mem_of_getElem? (i := 1790) (by decide +kernel)⟩
theorem lw_p113 : lw_okq (⟨"StoneMeetModel", "yearBy", "(III)I"⟩, 41) := ⟨⟨by decide +kernel, by decide +kernel⟩, List.mem_of_getElem? (i := 1356) (by decide +kernel), List.mem_of_getElem? (i := 1793) (by decide +kernel), List.mem_of_getElem? (i := 1794) (by decide +kernel)⟩
theorem lw_p114 : lw_okq (⟨"StoneMeetModel", "ledAt", "(I)I"⟩, 41) := ⟨⟨by decide +kernel, by decide +kernel⟩, List.mem_of_getElem? (i := 1356) (by decide +kernel), List.mem_of_getElem? (i := 1797) (by decide +kernel), List.mem_of_getElem? (i := 1798) (by decide +kernel)⟩
theorem lw_p115 : lw_okq (⟨"StoneMeetModel", "metAt", "(I)I"⟩, 41) := ⟨⟨by decide +kernel, by decide +kernel⟩, List.mem_of_getElem? (i := 1356) (by decide +kernel), List.mem_of_getElem? (i := 1805) (by decide +kernel), List.mem_of_getElem? (i := 1806) (by decide +kernel)⟩
theorem lw_p116 : lw_okq (⟨"StoneMeetModel", "isSet", "(I)Z"⟩, 41) := ⟨⟨by decide +kernel, by decide +kernel⟩, List.mem_of_getElem? (i := 1356) (by decide +kernel), List.mem_of_getElem? (i := 1830) (by decide +kernel), List.mem_of_getElem? (i := 1831) (by decide +kernel)⟩
theorem lw_p117 : lw_okq (⟨"StoneMeetModel", "laysMeeting", "(I)I"⟩, 41) := ⟨⟨by decide +kernel, by decide +kernel⟩, List.mem_of_getElem? (i := 1356) (by decide +kernel), List.mem_of_getElem? (i := 1834) (by decide +kernel), List.mem_of_getElem? (i := 1835) (by decide +kernel)⟩
theorem lw_p118 : lw_okq (⟨"StoneMeetModel", "laysStands", "(Z)V"⟩, 41) := ⟨⟨by decide +kernel, by decide +kernel⟩, List.mem_of_getElem? (i := 1356) (by decide +kernel), List.mem_of_getElem? (i := 1838) (by decide +kernel), List.mem_of_getElem? (i := 1839) (by decide +kernel)⟩
theorem lw_p119 : lw_okq (⟨"StoneMeetModel", "adds", "(I)V"⟩, 41) := ⟨⟨by decide +kernel, by decide +kernel⟩, List.mem_of_getElem? (i := 1356) (by decide +kernel), List.mem_of_getElem? (i := 1842) (by decide +kernel), List.mem_of_getElem? (i := 1843) (by decide +kernel)⟩
theorem lw_p120 : lw_okq (⟨"StoneMeetModel", "laysFar", "()I"⟩, 41) := ⟨⟨by decide +kernel, by decide +kernel⟩, List.mem_of_getElem? (i := 1356) (by decide +kernel), List.mem_of_getElem? (i := 1847) (by decide +kernel), List.mem_of_getElem? (i := 1848) (by decide +kernel)⟩
theorem lw_p121 : lw_okq (⟨"StoneMeetModel", "leastBy", "(I)I"⟩, 41) := ⟨⟨by decide +kernel, by decide +kernel⟩, List.mem_of_getElem? (i := 1356) (by decide +kernel), List.mem_of_getElem? (i := 1851) (by decide +kernel), List.mem_of_getElem? (i := 1852) (by decide +kernel)⟩
theorem lw_p122 : lw_okq (⟨"StoneMeetModel", "beginsMany", "()V"⟩, 41) := ⟨⟨by decide +kernel, by decide +kernel⟩, List.mem_of_getElem? (i := 1356) (by decide +kernel), List.mem_of_getElem? (i := 1868) (by decide +kernel), List.mem_of_getElem? (i := 1869) (by decide +kernel)⟩
theorem lw_p123 : lw_okq (⟨"StoneMeetModel", "isThen", "()V"⟩, 41) := ⟨⟨by decide +kernel, by decide +kernel⟩, List.mem_of_getElem? (i := 1356) (by decide +kernel), List.mem_of_getElem? (i := 1872) (by decide +kernel), List.mem_of_getElem? (i := 1873) (by decide +kernel)⟩
theorem lw_p124 : lw_okq (⟨"StoneMeetModel", "noSeen", "(II)I"⟩, 41) := ⟨⟨by decide +kernel, by decide +kernel⟩, List.mem_of_getElem? (i := 1356) (by decide +kernel), List.mem_of_getElem? (i := 1896) (by decide +kernel), List.mem_of_getElem? (i := 1897) (by decide +kernel)⟩
theorem lw_p125 : lw_okq (⟨"StoneMeetModel", "isSeen", "(III)Z"⟩, 41) := ⟨⟨by decide +kernel, by decide +kernel⟩, List.mem_of_getElem? (i := 1356) (by decide +kernel), List.mem_of_getElem? (i := 1901) (by decide +kernel), List.mem_of_getElem? (i := 1902) (by decide +kernel)⟩
theorem lw_p126 : lw_okq (⟨"StoneMeetModel", "dryIn", "(III)I"⟩, 41) := ⟨⟨by decide +kernel, by decide +kernel⟩, List.mem_of_getElem? (i := 1356) (by decide +kernel), List.mem_of_getElem? (i := 1905) (by decide +kernel), List.mem_of_getElem? (i := 1906) (by decide +kernel)⟩
theorem lw_p127 : lw_okq (⟨"StoneMeetModel", "chalksOf", "(II)I"⟩, 41) := ⟨⟨by decide +kernel, by decide +kernel⟩, List.mem_of_getElem? (i := 1356) (by decide +kernel), List.mem_of_getElem? (i := 1921) (by decide +kernel), List.mem_of_getElem? (i := 1922) (by decide +kernel)⟩
def lw_privs_8 : List (MethodName × Nat) := [(⟨"StoneMeetModel", "fallsSo", "(IIII)Z"⟩, 41), (⟨"StoneMeetModel", "yearBy", "(III)I"⟩, 41), (⟨"StoneMeetModel", "ledAt", "(I)I"⟩, 41), (⟨"StoneMeetModel", "metAt", "(I)I"⟩, 41), (⟨"StoneMeetModel", "isSet", "(I)Z"⟩, 41), (⟨"StoneMeetModel", "laysMeeting", "(I)I"⟩, 41), (⟨"StoneMeetModel", "laysStands", "(Z)V"⟩, 41), (⟨"StoneMeetModel", "adds", "(I)V"⟩, 41), (⟨"StoneMeetModel", "laysFar", "()I"⟩, 41), (⟨"StoneMeetModel", "leastBy", "(I)I"⟩, 41), (⟨"StoneMeetModel", "beginsMany", "()V"⟩, 41), (⟨"StoneMeetModel", "isThen", "()V"⟩, 41), (⟨"StoneMeetModel", "noSeen", "(II)I"⟩, 41), (⟨"StoneMeetModel", "isSeen", "(III)Z"⟩, 41), (⟨"StoneMeetModel", "dryIn", "(III)I"⟩, 41), (⟨"StoneMeetModel", "chalksOf", "(II)I"⟩, 41)]
theorem lw_r8 : ∀ q ∈ lw_privs_8, lw_okq q := List.forall_mem_cons.mpr ⟨lw_p112, List.forall_mem_cons.mpr ⟨lw_p113, List.forall_mem_cons.mpr ⟨lw_p114, List.forall_mem_cons.mpr ⟨lw_p115, List.forall_mem_cons.mpr ⟨lw_p116, List.forall_mem_cons.mpr ⟨lw_p117, List.forall_mem_cons.mpr ⟨lw_p118, List.forall_mem_cons.mpr ⟨lw_p119, List.forall_mem_cons.mpr ⟨lw_p120, List.forall_mem_cons.mpr ⟨lw_p121, List.forall_mem_cons.mpr ⟨lw_p122, List.forall_mem_cons.mpr ⟨lw_p123, List.forall_mem_cons.mpr ⟨lw_p124, List.forall_mem_cons.mpr ⟨lw_p125, List.forall_mem_cons.mpr ⟨lw_p126, List.forall_mem_cons.mpr ⟨lw_p127, fun _ h => absurd h List.not_mem_nil⟩⟩⟩⟩⟩⟩⟩⟩⟩⟩⟩⟩⟩⟩⟩⟩
theorem lw_p128 : lw_okq (⟨"StoneMeetModel", "mostOften", "(III)I"⟩, 41) := ⟨⟨by decide +kernel, by decide +kernel⟩, List.mem_of_getElem? (i := 1356) (by decide +kernel), List.mem_of_getElem? (i := 1929) (by decide +kernel), List.mem_of_getElem? (i := 1930) (by decide +kernel)⟩
theorem lw_p129 : lw_okq (⟨"StoneMeetModel", "laysForced", "(I)I"⟩, 41) := ⟨⟨by decide +kernel, by decide +kernel⟩, List.mem_of_getElem? (i := 1356) (by decide +kernel), List.mem_of_getElem? (i := 1940) (by decide +kernel), List.mem_of_getElem? (i := 1941) (by decide +kernel)⟩
theorem lw_p130 : lw_okq (⟨"StoneMeetModel", "forcedBy", "(II)I"⟩, 41) := ⟨⟨by decide +kernel, by decide +kernel⟩, List.mem_of_getElem? (i := 1356) (by decide +kernel), List.mem_of_getElem? (i := 1944) (by decide +kernel), List.mem_of_getElem? (i := 1945) (by decide +kernel)⟩
theorem lw_p131 : lw_okq (⟨"StoneMeetModel", "noChance", "(ZII)I"⟩, 41) := ⟨⟨by decide +kernel, by decide +kernel⟩, List.mem_of_getElem? (i := 1356) (by decide +kernel), List.mem_of_getElem? (i := 1956) (by decide +kernel), List.mem_of_getElem? (i := 1957) (by decide +kernel)⟩
theorem lw_p132 : lw_okq (⟨"StoneMeetModel", "laysLikely", "(I)I"⟩, 41) := ⟨⟨by decide +kernel, by decide +kernel⟩, List.mem_of_getElem? (i := 1356) (by decide +kernel), List.mem_of_getElem? (i := 1960) (by decide +kernel), List.mem_of_getElem? (i := 1961) (by decide +kernel)⟩
def lw_privs_9 : List (MethodName × Nat) := [(⟨"StoneMeetModel", "mostOften", "(III)I"⟩, 41), (⟨"StoneMeetModel", "laysForced", "(I)I"⟩, 41), (⟨"StoneMeetModel", "forcedBy", "(II)I"⟩, 41), (⟨"StoneMeetModel", "noChance", "(ZII)I"⟩, 41), (⟨"StoneMeetModel", "laysLikely", "(I)I"⟩, 41)]
theorem lw_r9 : ∀ q ∈ lw_privs_9, lw_okq q := List.forall_mem_cons.mpr ⟨lw_p128, List.forall_mem_cons.mpr ⟨lw_p129, List.forall_mem_cons.mpr ⟨lw_p130, List.forall_mem_cons.mpr ⟨lw_p131, List.forall_mem_cons.mpr ⟨lw_p132, fun _ h => absurd h List.not_mem_nil⟩⟩⟩⟩⟩
def lw_privs : List (MethodName × Nat) := lw_privs_1 ++ (lw_privs_2 ++ (lw_privs_3 ++ (lw_privs_4 ++ (lw_privs_5 ++ (lw_privs_6 ++ (lw_privs_7 ++ (lw_privs_8 ++ (lw_privs_9))))))))
def lw_tbl : List Cond := k2_sels lw_privs ++ tables_1
theorem lw_privs_ok : ∀ q ∈ lw_privs, lw_okq q := by
  show ∀ q ∈ lw_privs_1 ++ (lw_privs_2 ++ (lw_privs_3 ++ (lw_privs_4 ++ (lw_privs_5 ++ (lw_privs_6 ++ (lw_privs_7 ++ (lw_privs_8 ++ (lw_privs_9)))))))), lw_okq q
  exact List.forall_mem_append.mpr ⟨lw_r1, List.forall_mem_append.mpr ⟨lw_r2, List.forall_mem_append.mpr ⟨lw_r3, List.forall_mem_append.mpr ⟨lw_r4, List.forall_mem_append.mpr ⟨lw_r5, List.forall_mem_append.mpr ⟨lw_r6, List.forall_mem_append.mpr ⟨lw_r7, List.forall_mem_append.mpr ⟨lw_r8, lw_r9⟩⟩⟩⟩⟩⟩⟩⟩
def RX0 : String := "StoneMeet$Cave"
def TX0 : u_T := fun k => match k with
  | 0 => ("StoneMeet$Cave", "pairs", "I", true)
  | 1 => ("StoneMeet$Cave", "drops", "I", true)
  | 2 => ("StoneMeet$Cave", "dryness", "I", true)
  | 3 => ("StoneMeet$Cave", "lines", "I", true)
  | 4 => ("StoneMeet$Cave", "gaps", "I", true)
  | 5 => ("StoneMeet$Cave", "chalks", "I", true)
  | 6 => ("StoneMeet$Cave", "leading", "I", true)
  | 7 => ("StoneMeet$Cave", "grows", "LStoneMeet$Law;", true)
  | 8 => ("StoneMeet$Cave", "falls", "LStoneMeet$Law;", true)
  | 9 => ("StoneMeet$Cave", "leadings", "[I", true)
  | _ => ("StoneMeet$Cave", "shareAt", "[I", true)
def tyX0 : Nat → FieldType := fun k => match k with
  | 0 => .int
  | 1 => .int
  | 2 => .int
  | 3 => .int
  | 4 => .int
  | 5 => .int
  | 6 => .int
  | 7 => .object "StoneMeet$Law"
  | 8 => .object "StoneMeet$Law"
  | 9 => .array .int
  | _ => .array .int
abbrev wsX00 : List Cond := u_ws RX0 TX0 11
theorem nmX0 : ∀ a, a < 11 → ∀ b, b < 11 → a ≠ b → (TX0 a).2.1 ≠ (TX0 b).2.1 := by decide +kernel
theorem tyX0_ok : ∀ k, k < 11 → parseFieldDescriptor (TX0 k).2.2.1 = some (tyX0 k) := by decide +kernel
abbrev cX0_init : ByteArray := prog_2_method_1_code
def yX0_init : MethodName := ⟨RX0, "<init>", "(LStoneMeet$Parser;)V"⟩
abbrev cX0_listLeadings : ByteArray := prog_2_method_2_code
def yX0_listLeadings : MethodName := ⟨RX0, "listLeadings", "(II)[I"⟩
abbrev cX0_allDrops : ByteArray := prog_2_method_3_code
def yX0_allDrops : MethodName := ⟨RX0, "allDrops", "(I)I"⟩
abbrev cX0_isLeading : ByteArray := prog_2_method_4_code
def yX0_isLeading : MethodName := ⟨RX0, "isLeading", "(I)Z"⟩
abbrev cX0_leadingAt : ByteArray := prog_2_method_5_code
def yX0_leadingAt : MethodName := ⟨RX0, "leadingAt", "(I)I"⟩
abbrev cX0_metBits : ByteArray := prog_2_method_6_code
def yX0_metBits : MethodName := ⟨RX0, "metBits", "(I)I"⟩
abbrev cX0_metCount : ByteArray := prog_2_method_7_code
def yX0_metCount : MethodName := ⟨RX0, "metCount", "(I)I"⟩
abbrev cX0_gapSum : ByteArray := prog_2_method_8_code
def yX0_gapSum : MethodName := ⟨RX0, "gapSum", "(I)I"⟩
abbrev cX0_widestGap : ByteArray := prog_2_method_9_code
def yX0_widestGap : MethodName := ⟨RX0, "widestGap", "(I)I"⟩
def RX1 : String := "StoneMeet$Course"
def TX1 : u_T := fun k => match k with
  | 0 => ("StoneMeet$Course", "known", "[I", true)
  | 1 => ("StoneMeet$Course", "stack", "[I", true)
  | 2 => ("StoneMeet$Course", "growths", "[B", true)
  | 3 => ("StoneMeet$Course", "fallings", "[B", true)
  | 4 => ("StoneMeet$Course", "shares", "[I", true)
  | 5 => ("StoneMeet$Course", "cave", "LStoneMeet$Cave;", false)
  | _ => ("StoneMeet$Course", "chalks", "I", false)
def tyX1 : Nat → FieldType := fun k => match k with
  | 0 => .array .int
  | 1 => .array .int
  | 2 => .array .byte
  | 3 => .array .byte
  | 4 => .array .int
  | 5 => .object "StoneMeet$Cave"
  | _ => .int
abbrev wsX10 : List Cond := u_ws RX1 TX1 7
theorem nmX1 : ∀ a, a < 7 → ∀ b, b < 7 → a ≠ b → (TX1 a).2.1 ≠ (TX1 b).2.1 := by decide +kernel
theorem tyX1_ok : ∀ k, k < 7 → parseFieldDescriptor (TX1 k).2.2.1 = some (tyX1 k) := by decide +kernel
abbrev cX1_init : ByteArray := prog_3_method_1_code
def yX1_init : MethodName := ⟨RX1, "<init>", "(LStoneMeet$Cave;)V"⟩
abbrev cX1_tune : ByteArray := prog_3_method_2_code
def yX1_tune : MethodName := ⟨RX1, "tune", "(LStoneMeet$Cave;I)V"⟩
abbrev cX1_tunedTo : ByteArray := prog_3_method_3_code
def yX1_tunedTo : MethodName := ⟨RX1, "tunedTo", "()LStoneMeet$Cave;"⟩
abbrev cX1_growth : ByteArray := prog_3_method_4_code
def yX1_growth : MethodName := ⟨RX1, "growth", "(IIIII)I"⟩
abbrev cX1_know : ByteArray := prog_3_method_5_code
def yX1_know : MethodName := ⟨RX1, "know", "(II)V"⟩
abbrev cX1_collapses : ByteArray := prog_3_method_6_code
def yX1_collapses : MethodName := ⟨RX1, "collapses", "(II)Z"⟩
abbrev cX1_after : ByteArray := prog_3_method_7_code
def yX1_after : MethodName := ⟨RX1, "after", "(III)I"⟩
abbrev cX1_kept : ByteArray := prog_3_method_8_code
def yX1_kept : MethodName := ⟨RX1, "kept", "(I)I"⟩
abbrev cX1_spread : ByteArray := prog_3_method_9_code
def yX1_spread : MethodName := ⟨RX1, "spread", "(II[I)V"⟩
def RX2 : String := "StoneMeet$DryRows"
def TX2 : u_T := fun k => match k with
  | 0 => ("StoneMeet$DryRows", "course", "LStoneMeet$Course;", true)
  | 1 => ("StoneMeet$DryRows", "pair", "I", false)
  | 2 => ("StoneMeet$DryRows", "leading", "I", false)
  | 3 => ("StoneMeet$DryRows", "dryness", "I", false)
  | 4 => ("StoneMeet$DryRows", "found", "I", false)
  | 5 => ("StoneMeet$DryRows", "first", "I", false)
  | 6 => ("StoneMeet$DryRows", "alwaysDry", "I", false)
  | 7 => ("StoneMeet$DryRows", "neverDry", "I", false)
  | 8 => ("StoneMeet$DryRows", "metWeight", "J", false)
  | 9 => ("StoneMeet$DryRows", "gapWeight", "J", false)
  | 10 => ("StoneMeet$DryRows", "fallenWeight", "J", false)
  | _ => ("StoneMeet$DryRows", "allWeight", "J", false)
def tyX2 : Nat → FieldType := fun k => match k with
  | 0 => .object "StoneMeet$Course"
  | 1 => .int
  | 2 => .int
  | 3 => .int
  | 4 => .int
  | 5 => .int
  | 6 => .int
  | 7 => .int
  | 8 => .long
  | 9 => .long
  | 10 => .long
  | _ => .long
abbrev wsX20 : List Cond := u_ws RX2 TX2 12
theorem nmX2 : ∀ a, a < 12 → ∀ b, b < 12 → a ≠ b → (TX2 a).2.1 ≠ (TX2 b).2.1 := by decide +kernel
theorem tyX2_ok : ∀ k, k < 12 → parseFieldDescriptor (TX2 k).2.2.1 = some (tyX2 k) := by decide +kernel
abbrev cX2_init : ByteArray := prog_4_method_1_code
def yX2_init : MethodName := ⟨RX2, "<init>", "(LStoneMeet$Course;)V"⟩
abbrev cX2_trace : ByteArray := prog_4_method_2_code
def yX2_trace : MethodName := ⟨RX2, "trace", "(LStoneMeet$Tray;III)V"⟩
abbrev cX2_follow : ByteArray := prog_4_method_3_code
def yX2_follow : MethodName := ⟨RX2, "follow", "(LStoneMeet$Tray;III)V"⟩
abbrev cX2_weigh : ByteArray := prog_4_method_4_code
def yX2_weigh : MethodName := ⟨RX2, "weigh", "(IIII)V"⟩
abbrev cX2_spreadWeight : ByteArray := prog_4_method_5_code
def yX2_spreadWeight : MethodName := ⟨RX2, "spreadWeight", "(IIJ)V"⟩
def RX3 : String := "StoneMeet$Law"
def TX3 : u_T := fun k => match k with
  | _ => ("StoneMeet$Law", "parts", "[I", true)
def tyX3 : Nat → FieldType := fun k => match k with
  | _ => .array .int
abbrev wsX30 : List Cond := u_ws RX3 TX3 1
theorem nmX3 : ∀ a, a < 1 → ∀ b, b < 1 → a ≠ b → (TX3 a).2.1 ≠ (TX3 b).2.1 := by decide +kernel
theorem tyX3_ok : ∀ k, k < 1 → parseFieldDescriptor (TX3 k).2.2.1 = some (tyX3 k) := by decide +kernel
abbrev cX3_init : ByteArray := prog_5_method_1_code
def yX3_init : MethodName := ⟨RX3, "<init>", "([II)V"⟩
abbrev cX3_placeOf : ByteArray := prog_5_method_2_code
def yX3_placeOf : MethodName := ⟨RX3, "placeOf", "(I)I"⟩
abbrev cX3_tell : ByteArray := prog_5_method_3_code
def yX3_tell : MethodName := ⟨RX3, "tell", "([I[I)I"⟩
abbrev cX3_takes : ByteArray := prog_5_method_4_code
def yX3_takes : MethodName := ⟨RX3, "takes", "(I)I"⟩
abbrev cX3_join : ByteArray := prog_5_method_5_code
def yX3_join : MethodName := ⟨RX3, "join", "(IJJ)I"⟩
def RX4 : String := "StoneMeet$Parser"
def TX4 : u_T := fun k => match k with
  | 0 => ("StoneMeet$Parser", "reader", "LStoneMeet$Reader;", true)
  | 1 => ("StoneMeet$Parser", "parts", "[I", true)
  | 2 => ("StoneMeet$Parser", "size", "I", false)
  | 3 => ("StoneMeet$Parser", "tellsGrowth", "Z", false)
  | 4 => ("StoneMeet$Parser", "number", "I", false)
  | 5 => ("StoneMeet$Parser", "faultKind", "I", false)
  | 6 => ("StoneMeet$Parser", "faultPlace", "I", false)
  | 7 => ("StoneMeet$Parser", "lines", "I", false)
  | 8 => ("StoneMeet$Parser", "pairs", "I", false)
  | 9 => ("StoneMeet$Parser", "drops", "I", false)
  | 10 => ("StoneMeet$Parser", "dryness", "I", false)
  | 11 => ("StoneMeet$Parser", "gaps", "I", false)
  | 12 => ("StoneMeet$Parser", "chalks", "I", false)
  | 13 => ("StoneMeet$Parser", "leading", "I", false)
  | 14 => ("StoneMeet$Parser", "grows", "LStoneMeet$Law;", false)
  | _ => ("StoneMeet$Parser", "falls", "LStoneMeet$Law;", false)
def tyX4 : Nat → FieldType := fun k => match k with
  | 0 => .object "StoneMeet$Reader"
  | 1 => .array .int
  | 2 => .int
  | 3 => .boolean
  | 4 => .int
  | 5 => .int
  | 6 => .int
  | 7 => .int
  | 8 => .int
  | 9 => .int
  | 10 => .int
  | 11 => .int
  | 12 => .int
  | 13 => .int
  | 14 => .object "StoneMeet$Law"
  | _ => .object "StoneMeet$Law"
abbrev wsX40 : List Cond := u_ws RX4 TX4 16
theorem nmX4 : ∀ a, a < 16 → ∀ b, b < 16 → a ≠ b → (TX4 a).2.1 ≠ (TX4 b).2.1 := by decide +kernel
theorem tyX4_ok : ∀ k, k < 16 → parseFieldDescriptor (TX4 k).2.2.1 = some (tyX4 k) := by decide +kernel
abbrev cX4_init : ByteArray := prog_6_method_1_code
def yX4_init : MethodName := ⟨RX4, "<init>", "()V"⟩
abbrev cX4_read : ByteArray := prog_6_method_2_code
def yX4_read : MethodName := ⟨RX4, "read", "([BI)LStoneMeet$Cave;"⟩
abbrev cX4_forget : ByteArray := prog_6_method_3_code
def yX4_forget : MethodName := ⟨RX4, "forget", "()V"⟩
abbrev cX4_refuse : ByteArray := prog_6_method_4_code
def yX4_refuse : MethodName := ⟨RX4, "refuse", "(I)Z"⟩
abbrev cX4_take : ByteArray := prog_6_method_5_code
def yX4_take : MethodName := ⟨RX4, "take", "(Ljava/lang/String;)Z"⟩
abbrev cX4_takeNumber : ByteArray := prog_6_method_6_code
def yX4_takeNumber : MethodName := ⟨RX4, "takeNumber", "(I)Z"⟩
abbrev cX4_tellCave : ByteArray := prog_6_method_7_code
def yX4_tellCave : MethodName := ⟨RX4, "tellCave", "()Z"⟩
abbrev cX4_tellLine : ByteArray := prog_6_method_8_code
def yX4_tellLine : MethodName := ⟨RX4, "tellLine", "()Z"⟩
abbrev cX4_tellPair : ByteArray := prog_6_method_9_code
def yX4_tellPair : MethodName := ⟨RX4, "tellPair", "()Z"⟩
abbrev cX4_tellLead : ByteArray := prog_6_method_10_code
def yX4_tellLead : MethodName := ⟨RX4, "tellLead", "()Z"⟩
abbrev cX4_tellDry : ByteArray := prog_6_method_11_code
def yX4_tellDry : MethodName := ⟨RX4, "tellDry", "()Z"⟩
abbrev cX4_tellGrows : ByteArray := prog_6_method_12_code
def yX4_tellGrows : MethodName := ⟨RX4, "tellGrows", "()Z"⟩
abbrev cX4_tellFalls : ByteArray := prog_6_method_13_code
def yX4_tellFalls : MethodName := ⟨RX4, "tellFalls", "()Z"⟩
abbrev cX4_put : ByteArray := prog_6_method_14_code
def yX4_put : MethodName := ⟨RX4, "put", "(I)V"⟩
abbrev cX4_sum : ByteArray := prog_6_method_15_code
def yX4_sum : MethodName := ⟨RX4, "sum", "(I)Z"⟩
abbrev cX4_isAtPlusOrMinus : ByteArray := prog_6_method_16_code
def yX4_isAtPlusOrMinus : MethodName := ⟨RX4, "isAtPlusOrMinus", "()Z"⟩
abbrev cX4_term : ByteArray := prog_6_method_17_code
def yX4_term : MethodName := ⟨RX4, "term", "(I)Z"⟩
abbrev cX4_atom : ByteArray := prog_6_method_18_code
def yX4_atom : MethodName := ⟨RX4, "atom", "(I)Z"⟩
abbrev cX4_choice : ByteArray := prog_6_method_19_code
def yX4_choice : MethodName := ⟨RX4, "choice", "(I)Z"⟩
abbrev cX4_goInto : ByteArray := prog_6_method_20_code
def yX4_goInto : MethodName := ⟨RX4, "goInto", "(I)Z"⟩
abbrev cX4_word : ByteArray := prog_6_method_21_code
def yX4_word : MethodName := ⟨RX4, "word", "()I"⟩
abbrev cX4_wordOfGrows : ByteArray := prog_6_method_22_code
def yX4_wordOfGrows : MethodName := ⟨RX4, "wordOfGrows", "()I"⟩
abbrev cX4_wordOfFalls : ByteArray := prog_6_method_23_code
def yX4_wordOfFalls : MethodName := ⟨RX4, "wordOfFalls", "()I"⟩
abbrev cX4_truth : ByteArray := prog_6_method_24_code
def yX4_truth : MethodName := ⟨RX4, "truth", "(I)Z"⟩
abbrev cX4_both : ByteArray := prog_6_method_25_code
def yX4_both : MethodName := ⟨RX4, "both", "(I)Z"⟩
abbrev cX4_unit : ByteArray := prog_6_method_26_code
def yX4_unit : MethodName := ⟨RX4, "unit", "(I)Z"⟩
abbrev cX4_comparison : ByteArray := prog_6_method_27_code
def yX4_comparison : MethodName := ⟨RX4, "comparison", "(I)Z"⟩
def RX5 : String := "StoneMeet$Past"
def TX5 : u_T := fun k => match k with
  | 0 => ("StoneMeet$Past", "stands", "[LStoneMeet$Stand;", true)
  | 1 => ("StoneMeet$Past", "next", "I", false)
  | _ => ("StoneMeet$Past", "size", "I", false)
def tyX5 : Nat → FieldType := fun k => match k with
  | 0 => .array (.object "StoneMeet$Stand")
  | 1 => .int
  | _ => .int
abbrev wsX50 : List Cond := u_ws RX5 TX5 3
theorem nmX5 : ∀ a, a < 3 → ∀ b, b < 3 → a ≠ b → (TX5 a).2.1 ≠ (TX5 b).2.1 := by decide +kernel
theorem tyX5_ok : ∀ k, k < 3 → parseFieldDescriptor (TX5 k).2.2.1 = some (tyX5 k) := by decide +kernel
abbrev cX5_init : ByteArray := prog_7_method_1_code
def yX5_init : MethodName := ⟨RX5, "<init>", "()V"⟩
abbrev cX5_remember : ByteArray := prog_7_method_2_code
def yX5_remember : MethodName := ⟨RX5, "remember", "(LStoneMeet$Stand;)V"⟩
abbrev cX5_bringBack : ByteArray := prog_7_method_3_code
def yX5_bringBack : MethodName := ⟨RX5, "bringBack", "(LStoneMeet$Stand;)V"⟩
abbrev cX5_forget : ByteArray := prog_7_method_4_code
def yX5_forget : MethodName := ⟨RX5, "forget", "()V"⟩
def RX6 : String := "StoneMeet$Reader"
def TX6 : u_T := fun k => match k with
  | 0 => ("StoneMeet$Reader", "text", "[B", false)
  | 1 => ("StoneMeet$Reader", "length", "I", false)
  | 2 => ("StoneMeet$Reader", "end", "I", false)
  | 3 => ("StoneMeet$Reader", "kind", "I", false)
  | 4 => ("StoneMeet$Reader", "place", "I", false)
  | _ => ("StoneMeet$Reader", "value", "I", false)
def tyX6 : Nat → FieldType := fun k => match k with
  | 0 => .array .byte
  | 1 => .int
  | 2 => .int
  | 3 => .int
  | 4 => .int
  | _ => .int
abbrev wsX60 : List Cond := u_ws RX6 TX6 6
theorem nmX6 : ∀ a, a < 6 → ∀ b, b < 6 → a ≠ b → (TX6 a).2.1 ≠ (TX6 b).2.1 := by decide +kernel
theorem tyX6_ok : ∀ k, k < 6 → parseFieldDescriptor (TX6 k).2.2.1 = some (tyX6 k) := by decide +kernel
abbrev cX6_init : ByteArray := prog_8_method_1_code
def yX6_init : MethodName := ⟨RX6, "<init>", "()V"⟩
abbrev cX6_open : ByteArray := prog_8_method_2_code
def yX6_open : MethodName := ⟨RX6, "open", "([BI)V"⟩
abbrev cX6_advance : ByteArray := prog_8_method_3_code
def yX6_advance : MethodName := ⟨RX6, "advance", "()V"⟩
abbrev cX6_readWord : ByteArray := prog_8_method_4_code
def yX6_readWord : MethodName := ⟨RX6, "readWord", "()V"⟩
abbrev cX6_readNumber : ByteArray := prog_8_method_5_code
def yX6_readNumber : MethodName := ⟨RX6, "readNumber", "()V"⟩
abbrev cX6_isAt : ByteArray := prog_8_method_6_code
def yX6_isAt : MethodName := ⟨RX6, "isAt", "(Ljava/lang/String;)Z"⟩
def RX7 : String := "StoneMeet$Search"
def TX7 : u_T := fun k => match k with
  | 0 => ("StoneMeet$Search", "course", "LStoneMeet$Course;", true)
  | 1 => ("StoneMeet$Search", "cave", "LStoneMeet$Cave;", false)
  | 2 => ("StoneMeet$Search", "chalks", "I", false)
  | 3 => ("StoneMeet$Search", "marks", "[I", true)
  | 4 => ("StoneMeet$Search", "stamp", "I", false)
  | 5 => ("StoneMeet$Search", "queue", "[I", true)
  | 6 => ("StoneMeet$Search", "links", "[I", true)
  | 7 => ("StoneMeet$Search", "entries", "[I", true)
  | 8 => ("StoneMeet$Search", "counts", "[J", true)
  | 9 => ("StoneMeet$Search", "wet", "[I", true)
  | 10 => ("StoneMeet$Search", "dry", "[I", true)
  | 11 => ("StoneMeet$Search", "least", "[I", true)
  | 12 => ("StoneMeet$Search", "reached", "I", false)
  | 13 => ("StoneMeet$Search", "explored", "Z", false)
  | 14 => ("StoneMeet$Search", "exploredFrom", "I", false)
  | 15 => ("StoneMeet$Search", "exploredFor", "I", false)
  | _ => ("StoneMeet$Search", "exploredGoal", "I", false)
def tyX7 : Nat → FieldType := fun k => match k with
  | 0 => .object "StoneMeet$Course"
  | 1 => .object "StoneMeet$Cave"
  | 2 => .int
  | 3 => .array .int
  | 4 => .int
  | 5 => .array .int
  | 6 => .array .int
  | 7 => .array .int
  | 8 => .array .long
  | 9 => .array .int
  | 10 => .array .int
  | 11 => .array .int
  | 12 => .int
  | 13 => .boolean
  | 14 => .int
  | 15 => .int
  | _ => .int
abbrev wsX70 : List Cond := u_ws RX7 TX7 17
theorem nmX7 : ∀ a, a < 17 → ∀ b, b < 17 → a ≠ b → (TX7 a).2.1 ≠ (TX7 b).2.1 := by decide +kernel
theorem tyX7_ok : ∀ k, k < 17 → parseFieldDescriptor (TX7 k).2.2.1 = some (tyX7 k) := by decide +kernel
abbrev cX7_init : ByteArray := prog_9_method_1_code
def yX7_init : MethodName := ⟨RX7, "<init>", "(LStoneMeet$Course;LStoneMeet$Cave;)V"⟩
abbrev cX7_tune : ByteArray := prog_9_method_2_code
def yX7_tune : MethodName := ⟨RX7, "tune", "(LStoneMeet$Cave;I)V"⟩
abbrev cX7_begin : ByteArray := prog_9_method_3_code
def yX7_begin : MethodName := ⟨RX7, "begin", "()V"⟩
abbrev cX7_isState : ByteArray := prog_9_method_4_code
def yX7_isState : MethodName := ⟨RX7, "isState", "(I)Z"⟩
abbrev cX7_isNew : ByteArray := prog_9_method_5_code
def yX7_isNew : MethodName := ⟨RX7, "isNew", "(I)Z"⟩
abbrev cX7_reach : ByteArray := prog_9_method_6_code
def yX7_reach : MethodName := ⟨RX7, "reach", "(II)V"⟩
abbrev cX7_linkOf : ByteArray := prog_9_method_7_code
def yX7_linkOf : MethodName := ⟨RX7, "linkOf", "(I)I"⟩
abbrev cX7_isGoal : ByteArray := prog_9_method_8_code
def yX7_isGoal : MethodName := ⟨RX7, "isGoal", "(II)Z"⟩
abbrev cX7_explore : ByteArray := prog_9_method_9_code
def yX7_explore : MethodName := ⟨RX7, "explore", "(II)I"⟩
abbrev cX7_reachGoal : ByteArray := prog_9_method_10_code
def yX7_reachGoal : MethodName := ⟨RX7, "reachGoal", "(II)I"⟩
abbrev cX7_lengthTo : ByteArray := prog_9_method_11_code
def yX7_lengthTo : MethodName := ⟨RX7, "lengthTo", "(I)I"⟩
abbrev cX7_leadingTo : ByteArray := prog_9_method_12_code
def yX7_leadingTo : MethodName := ⟨RX7, "leadingTo", "(II)I"⟩
abbrev cX7_mostMet : ByteArray := prog_9_method_13_code
def yX7_mostMet : MethodName := ⟨RX7, "mostMet", "()I"⟩
abbrev cX7_longestHold : ByteArray := prog_9_method_14_code
def yX7_longestHold : MethodName := ⟨RX7, "longestHold", "(I)I"⟩
abbrev cX7_leaveFor : ByteArray := prog_9_method_15_code
def yX7_leaveFor : MethodName := ⟨RX7, "leaveFor", "(II)V"⟩
abbrev cX7_countRows : ByteArray := prog_9_method_16_code
def yX7_countRows : MethodName := ⟨RX7, "countRows", "(III)J"⟩
abbrev cX7_rowsOf : ByteArray := prog_9_method_17_code
def yX7_rowsOf : MethodName := ⟨RX7, "rowsOf", "(I)J"⟩
abbrev cX7_passOn : ByteArray := prog_9_method_18_code
def yX7_passOn : MethodName := ⟨RX7, "passOn", "(IJI)V"⟩
abbrev cX7_forcedWithin : ByteArray := prog_9_method_19_code
def yX7_forcedWithin : MethodName := ⟨RX7, "forcedWithin", "(II)I"⟩
abbrev cX7_tellLeastYears : ByteArray := prog_9_method_20_code
def yX7_tellLeastYears : MethodName := ⟨RX7, "tellLeastYears", "(I)V"⟩
abbrev cX7_mayBeForced : ByteArray := prog_9_method_21_code
def yX7_mayBeForced : MethodName := ⟨RX7, "mayBeForced", "(III)Z"⟩
abbrev cX7_reachByTurns : ByteArray := prog_9_method_22_code
def yX7_reachByTurns : MethodName := ⟨RX7, "reachByTurns", "(II)V"⟩
abbrev cX7_reachOpen : ByteArray := prog_9_method_23_code
def yX7_reachOpen : MethodName := ⟨RX7, "reachOpen", "(II)V"⟩
abbrev cX7_forcingLeading : ByteArray := prog_9_method_24_code
def yX7_forcingLeading : MethodName := ⟨RX7, "forcingLeading", "(III)I"⟩
abbrev cX7_isForced : ByteArray := prog_9_method_25_code
def yX7_isForced : MethodName := ⟨RX7, "isForced", "(III)Z"⟩
def RX8 : String := "StoneMeet$Stand"
def TX8 : u_T := fun k => match k with
  | 0 => ("StoneMeet$Stand", "state", "I", false)
  | 1 => ("StoneMeet$Stand", "chalks", "I", false)
  | 2 => ("StoneMeet$Stand", "leading", "I", false)
  | _ => ("StoneMeet$Stand", "years", "I", false)
def tyX8 : Nat → FieldType := fun k => match k with
  | 0 => .int
  | 1 => .int
  | 2 => .int
  | _ => .int
abbrev wsX80 : List Cond := u_ws RX8 TX8 4
theorem nmX8 : ∀ a, a < 4 → ∀ b, b < 4 → a ≠ b → (TX8 a).2.1 ≠ (TX8 b).2.1 := by decide +kernel
theorem tyX8_ok : ∀ k, k < 4 → parseFieldDescriptor (TX8 k).2.2.1 = some (tyX8 k) := by decide +kernel
abbrev cX8_init : ByteArray := prog_10_method_1_code
def yX8_init : MethodName := ⟨RX8, "<init>", "()V"⟩
abbrev cX8_begin : ByteArray := prog_10_method_2_code
def yX8_begin : MethodName := ⟨RX8, "begin", "(LStoneMeet$Cave;)V"⟩
abbrev cX8_copy : ByteArray := prog_10_method_3_code
def yX8_copy : MethodName := ⟨RX8, "copy", "(LStoneMeet$Stand;)V"⟩
def RX9 : String := "StoneMeet$Tray"
def TX9 : u_T := fun k => match k with
  | 0 => ("StoneMeet$Tray", "places", "[J", true)
  | 1 => ("StoneMeet$Tray", "sort", "I", false)
  | 2 => ("StoneMeet$Tray", "missing", "Z", false)
  | _ => ("StoneMeet$Tray", "size", "I", false)
def tyX9 : Nat → FieldType := fun k => match k with
  | 0 => .array .long
  | 1 => .int
  | 2 => .boolean
  | _ => .int
abbrev wsX90 : List Cond := u_ws RX9 TX9 4
theorem nmX9 : ∀ a, a < 4 → ∀ b, b < 4 → a ≠ b → (TX9 a).2.1 ≠ (TX9 b).2.1 := by decide +kernel
theorem tyX9_ok : ∀ k, k < 4 → parseFieldDescriptor (TX9 k).2.2.1 = some (tyX9 k) := by decide +kernel
abbrev cX9_init : ByteArray := prog_11_method_1_code
def yX9_init : MethodName := ⟨RX9, "<init>", "()V"⟩
abbrev cX9_renew : ByteArray := prog_11_method_2_code
def yX9_renew : MethodName := ⟨RX9, "renew", "(II)V"⟩
abbrev cX9_at : ByteArray := prog_11_method_3_code
def yX9_at : MethodName := ⟨RX9, "at", "(I)J"⟩
abbrev cX9_put : ByteArray := prog_11_method_4_code
def yX9_put : MethodName := ⟨RX9, "put", "(IJ)V"⟩
abbrev cX9_cut : ByteArray := prog_11_method_5_code
def yX9_cut : MethodName := ⟨RX9, "cut", "(J)J"⟩
def RX10 : String := "StoneMeet$Walk"
def TX10 : u_T := fun k => match k with
  | 0 => ("StoneMeet$Walk", "course", "LStoneMeet$Course;", true)
  | 1 => ("StoneMeet$Walk", "leading", "I", false)
  | 2 => ("StoneMeet$Walk", "state", "I", false)
  | 3 => ("StoneMeet$Walk", "years", "I", false)
  | 4 => ("StoneMeet$Walk", "anchor", "I", false)
  | 5 => ("StoneMeet$Walk", "anchorYear", "I", false)
  | _ => ("StoneMeet$Walk", "span", "I", false)
def tyX10 : Nat → FieldType := fun k => match k with
  | 0 => .object "StoneMeet$Course"
  | 1 => .int
  | 2 => .int
  | 3 => .int
  | 4 => .int
  | 5 => .int
  | _ => .int
abbrev wsX100 : List Cond := u_ws RX10 TX10 7
theorem nmX10 : ∀ a, a < 7 → ∀ b, b < 7 → a ≠ b → (TX10 a).2.1 ≠ (TX10 b).2.1 := by decide +kernel
theorem tyX10_ok : ∀ k, k < 7 → parseFieldDescriptor (TX10 k).2.2.1 = some (tyX10 k) := by decide +kernel
abbrev cX10_init : ByteArray := prog_12_method_1_code
def yX10_init : MethodName := ⟨RX10, "<init>", "(LStoneMeet$Course;)V"⟩
abbrev cX10_start : ByteArray := prog_12_method_2_code
def yX10_start : MethodName := ⟨RX10, "start", "(II)V"⟩
abbrev cX10_step : ByteArray := prog_12_method_3_code
def yX10_step : MethodName := ⟨RX10, "step", "()Z"⟩
abbrev cX10_stateBehind : ByteArray := prog_12_method_4_code
def yX10_stateBehind : MethodName := ⟨RX10, "stateBehind", "(III)I"⟩
abbrev cX10_tellMeetings : ByteArray := prog_12_method_5_code
def yX10_tellMeetings : MethodName := ⟨RX10, "tellMeetings", "(II[I)V"⟩
abbrev cX10_yearsTillFall : ByteArray := prog_12_method_6_code
def yX10_yearsTillFall : MethodName := ⟨RX10, "yearsTillFall", "(II)I"⟩
abbrev cX10_isSeenSo : ByteArray := prog_12_method_7_code
def yX10_isSeenSo : MethodName := ⟨RX10, "isSeenSo", "(LStoneMeet$Tray;III)Z"⟩
def RX11 : String := "StoneMeet"
def TX11 : u_T := fun k => match k with
  | 0 => ("StoneMeet", "tape", "[B", true)
  | 1 => ("StoneMeet", "taped", "I", false)
  | 2 => ("StoneMeet", "parser", "LStoneMeet$Parser;", true)
  | 3 => ("StoneMeet", "cave", "LStoneMeet$Cave;", false)
  | 4 => ("StoneMeet", "now", "LStoneMeet$Stand;", true)
  | 5 => ("StoneMeet", "before", "LStoneMeet$Stand;", true)
  | 6 => ("StoneMeet", "tried", "LStoneMeet$Stand;", true)
  | 7 => ("StoneMeet", "past", "LStoneMeet$Past;", true)
  | 8 => ("StoneMeet", "trays", "[LStoneMeet$Tray;", true)
  | 9 => ("StoneMeet", "imageCaves", "[LStoneMeet$Cave;", true)
  | 10 => ("StoneMeet", "imageStands", "[LStoneMeet$Stand;", true)
  | 11 => ("StoneMeet", "course", "LStoneMeet$Course;", true)
  | 12 => ("StoneMeet", "walk", "LStoneMeet$Walk;", true)
  | 13 => ("StoneMeet", "dryRows", "LStoneMeet$DryRows;", true)
  | 14 => ("StoneMeet", "search", "LStoneMeet$Search;", true)
  | 15 => ("StoneMeet", "meetYears", "[I", true)
  | 16 => ("StoneMeet", "movedYears", "[I", true)
  | 17 => ("StoneMeet", "alike", "[I", true)
  | _ => ("StoneMeet", "drawn", "I", false)
def tyX11 : Nat → FieldType := fun k => match k with
  | 0 => .array .byte
  | 1 => .int
  | 2 => .object "StoneMeet$Parser"
  | 3 => .object "StoneMeet$Cave"
  | 4 => .object "StoneMeet$Stand"
  | 5 => .object "StoneMeet$Stand"
  | 6 => .object "StoneMeet$Stand"
  | 7 => .object "StoneMeet$Past"
  | 8 => .array (.object "StoneMeet$Tray")
  | 9 => .array (.object "StoneMeet$Cave")
  | 10 => .array (.object "StoneMeet$Stand")
  | 11 => .object "StoneMeet$Course"
  | 12 => .object "StoneMeet$Walk"
  | 13 => .object "StoneMeet$DryRows"
  | 14 => .object "StoneMeet$Search"
  | 15 => .array .int
  | 16 => .array .int
  | 17 => .array .int
  | _ => .int
abbrev wsX110 : List Cond := u_ws RX11 TX11 19
theorem nmX11 : ∀ a, a < 19 → ∀ b, b < 19 → a ≠ b → (TX11 a).2.1 ≠ (TX11 b).2.1 := by decide +kernel
theorem tyX11_ok : ∀ k, k < 19 → parseFieldDescriptor (TX11 k).2.2.1 = some (tyX11 k) := by decide +kernel
abbrev cX11_init : ByteArray := prog_1_method_1_code
def yX11_init : MethodName := ⟨RX11, "<init>", "()V"⟩
abbrev cX11_feed : ByteArray := prog_1_method_2_code
def yX11_feed : MethodName := ⟨RX11, "feed", "(IIIII)I"⟩
abbrev cX11_tapeFour : ByteArray := prog_1_method_3_code
def yX11_tapeFour : MethodName := ⟨RX11, "tapeFour", "(I)V"⟩
abbrev cX11_cave : ByteArray := prog_1_method_4_code
def yX11_cave : MethodName := ⟨RX11, "cave", "(I)I"⟩
abbrev cX11_fault : ByteArray := prog_1_method_5_code
def yX11_fault : MethodName := ⟨RX11, "fault", "(I)I"⟩
abbrev cX11_pair : ByteArray := prog_1_method_6_code
def yX11_pair : MethodName := ⟨RX11, "pair", "(II)I"⟩
abbrev cX11_grown : ByteArray := prog_1_method_7_code
def yX11_grown : MethodName := ⟨RX11, "grown", "(III)I"⟩
abbrev cX11_leadings : ByteArray := prog_1_method_8_code
def yX11_leadings : MethodName := ⟨RX11, "leadings", "()I"⟩
abbrev cX11_isPair : ByteArray := prog_1_method_9_code
def yX11_isPair : MethodName := ⟨RX11, "isPair", "(I)Z"⟩
abbrev cX11_isDryness : ByteArray := prog_1_method_10_code
def yX11_isDryness : MethodName := ⟨RX11, "isDryness", "(I)Z"⟩
abbrev cX11_tuned : ByteArray := prog_1_method_11_code
def yX11_tuned : MethodName := ⟨RX11, "tuned", "()LStoneMeet$Course;"⟩
abbrev cX11_year : ByteArray := prog_1_method_12_code
def yX11_year : MethodName := ⟨RX11, "year", "(I)I"⟩
abbrev cX11_lead : ByteArray := prog_1_method_13_code
def yX11_lead : MethodName := ⟨RX11, "lead", "(I)I"⟩
abbrev cX11_saw : ByteArray := prog_1_method_14_code
def yX11_saw : MethodName := ⟨RX11, "saw", "(I)I"⟩
abbrev cX11_chalk : ByteArray := prog_1_method_15_code
def yX11_chalk : MethodName := ⟨RX11, "chalk", "(II)I"⟩
abbrev cX11_undo : ByteArray := prog_1_method_16_code
def yX11_undo : MethodName := ⟨RX11, "undo", "(I)I"⟩
abbrev cX11_judge : ByteArray := prog_1_method_17_code
def yX11_judge : MethodName := ⟨RX11, "judge", "(II)I"⟩
abbrev cX11_perform : ByteArray := prog_1_method_18_code
def yX11_perform : MethodName := ⟨RX11, "perform", "(I)I"⟩
abbrev cX11_age : ByteArray := prog_1_method_19_code
def yX11_age : MethodName := ⟨RX11, "age", "(II)I"⟩
abbrev cX11_drawDeed : ByteArray := prog_1_method_20_code
def yX11_drawDeed : MethodName := ⟨RX11, "drawDeed", "()I"⟩
abbrev cX11_draw : ByteArray := prog_1_method_21_code
def yX11_draw : MethodName := ⟨RX11, "draw", "()I"⟩
abbrev cX11_act : ByteArray := prog_1_method_22_code
def yX11_act : MethodName := ⟨RX11, "act", "(LStoneMeet$Stand;J)I"⟩
abbrev cX11_passYear : ByteArray := prog_1_method_23_code
def yX11_passYear : MethodName := ⟨RX11, "passYear", "(LStoneMeet$Stand;I)I"⟩
abbrev cX11_leadOtherwise : ByteArray := prog_1_method_24_code
def yX11_leadOtherwise : MethodName := ⟨RX11, "leadOtherwise", "(LStoneMeet$Stand;I)I"⟩
abbrev cX11_sawOff : ByteArray := prog_1_method_25_code
def yX11_sawOff : MethodName := ⟨RX11, "sawOff", "(LStoneMeet$Stand;I)I"⟩
abbrev cX11_giveChalk : ByteArray := prog_1_method_26_code
def yX11_giveChalk : MethodName := ⟨RX11, "giveChalk", "(LStoneMeet$Stand;II)I"⟩
abbrev cX11_lies : ByteArray := prog_1_method_27_code
def yX11_lies : MethodName := ⟨RX11, "lies", "(II)I"⟩
abbrev cX11_meets : ByteArray := prog_1_method_28_code
def yX11_meets : MethodName := ⟨RX11, "meets", "(I)I"⟩
abbrev cX11_order : ByteArray := prog_1_method_29_code
def yX11_order : MethodName := ⟨RX11, "order", "(I)I"⟩
abbrev cX11_countEarlier : ByteArray := prog_1_method_30_code
def yX11_countEarlier : MethodName := ⟨RX11, "countEarlier", "(I)I"⟩
abbrev cX11_falls : ByteArray := prog_1_method_31_code
def yX11_falls : MethodName := ⟨RX11, "falls", "()I"⟩
abbrev cX11_moved : ByteArray := prog_1_method_32_code
def yX11_moved : MethodName := ⟨RX11, "moved", "(III)I"⟩
abbrev cX11_soonest : ByteArray := prog_1_method_33_code
def yX11_soonest : MethodName := ⟨RX11, "soonest", "(I)I"⟩
abbrev cX11_way : ByteArray := prog_1_method_34_code
def yX11_way : MethodName := ⟨RX11, "way", "(II)I"⟩
abbrev cX11_rows : ByteArray := prog_1_method_35_code
def yX11_rows : MethodName := ⟨RX11, "rows", "(II)J"⟩
abbrev cX11_most : ByteArray := prog_1_method_36_code
def yX11_most : MethodName := ⟨RX11, "most", "()I"⟩
abbrev cX11_holding : ByteArray := prog_1_method_37_code
def yX11_holding : MethodName := ⟨RX11, "holding", "()I"⟩
abbrev cX11_felling : ByteArray := prog_1_method_38_code
def yX11_felling : MethodName := ⟨RX11, "felling", "()I"⟩
abbrev cX11_stands : ByteArray := prog_1_method_39_code
def yX11_stands : MethodName := ⟨RX11, "stands", "()I"⟩
abbrev cX11_isSet : ByteArray := prog_1_method_40_code
def yX11_isSet : MethodName := ⟨RX11, "isSet", "(I)Z"⟩
abbrev cX11_searching : ByteArray := prog_1_method_41_code
def yX11_searching : MethodName := ⟨RX11, "searching", "()LStoneMeet$Search;"⟩
abbrev cX11_seen : ByteArray := prog_1_method_42_code
def yX11_seen : MethodName := ⟨RX11, "seen", "(II)I"⟩
abbrev cX11_seenDry : ByteArray := prog_1_method_43_code
def yX11_seenDry : MethodName := ⟨RX11, "seenDry", "(III)I"⟩
abbrev cX11_surely : ByteArray := prog_1_method_44_code
def yX11_surely : MethodName := ⟨RX11, "surely", "(III)I"⟩
abbrev cX11_chalks : ByteArray := prog_1_method_45_code
def yX11_chalks : MethodName := ⟨RX11, "chalks", "(II)I"⟩
abbrev cX11_attempt : ByteArray := prog_1_method_46_code
def yX11_attempt : MethodName := ⟨RX11, "attempt", "(II)I"⟩
abbrev cX11_seenRefusal : ByteArray := prog_1_method_47_code
def yX11_seenRefusal : MethodName := ⟨RX11, "seenRefusal", "(II)I"⟩
abbrev cX11_traceSeen : ByteArray := prog_1_method_48_code
def yX11_traceSeen : MethodName := ⟨RX11, "traceSeen", "(II)V"⟩
abbrev cX11_chalkBits : ByteArray := prog_1_method_49_code
def yX11_chalkBits : MethodName := ⟨RX11, "chalkBits", "(II)I"⟩
abbrev cX11_mostAlike : ByteArray := prog_1_method_50_code
def yX11_mostAlike : MethodName := ⟨RX11, "mostAlike", "(III)I"⟩
abbrev cX11_forces : ByteArray := prog_1_method_51_code
def yX11_forces : MethodName := ⟨RX11, "forces", "(I)I"⟩
abbrev cX11_best : ByteArray := prog_1_method_52_code
def yX11_best : MethodName := ⟨RX11, "best", "(I)I"⟩
abbrev cX11_chance : ByteArray := prog_1_method_53_code
def yX11_chance : MethodName := ⟨RX11, "chance", "(III)I"⟩
abbrev cX11_mean : ByteArray := prog_1_method_54_code
def yX11_mean : MethodName := ⟨RX11, "mean", "(III)I"⟩
abbrev cX11_fallen : ByteArray := prog_1_method_55_code
def yX11_fallen : MethodName := ⟨RX11, "fallen", "(II)I"⟩
abbrev cX11_isFractionPart : ByteArray := prog_1_method_56_code
def yX11_isFractionPart : MethodName := ⟨RX11, "isFractionPart", "(I)Z"⟩
abbrev cX11_weighYears : ByteArray := prog_1_method_57_code
def yX11_weighYears : MethodName := ⟨RX11, "weighYears", "(II)V"⟩
abbrev cX11_fractionPart : ByteArray := prog_1_method_58_code
def yX11_fractionPart : MethodName := ⟨RX11, "fractionPart", "(JJI)I"⟩
abbrev cX11_numbers : ByteArray := prog_1_method_59_code
def yX11_numbers : MethodName := ⟨RX11, "numbers", "(III)I"⟩
abbrev cX11_write : ByteArray := prog_1_method_60_code
def yX11_write : MethodName := ⟨RX11, "write", "(IIJ)J"⟩
abbrev cX11_lists : ByteArray := prog_1_method_61_code
def yX11_lists : MethodName := ⟨RX11, "lists", "(II)I"⟩
abbrev cX11_image : ByteArray := prog_1_method_62_code
def yX11_image : MethodName := ⟨RX11, "image", "(I)I"⟩
abbrev cX11_restore : ByteArray := prog_1_method_63_code
def yX11_restore : MethodName := ⟨RX11, "restore", "(I)I"⟩
abbrev cX11_count : ByteArray := prog_1_method_64_code
def yX11_count : MethodName := ⟨RX11, "count", "(I)I"⟩
abbrev cX11_isTray : ByteArray := prog_1_method_65_code
def yX11_isTray : MethodName := ⟨RX11, "isTray", "(I)Z"⟩
abbrev cX11_digit : ByteArray := prog_1_method_66_code
def yX11_digit : MethodName := ⟨RX11, "digit", "(II)I"⟩
abbrev cX11_withDigit : ByteArray := prog_1_method_67_code
def yX11_withDigit : MethodName := ⟨RX11, "withDigit", "(III)I"⟩
abbrev cX11_dropsOf : ByteArray := prog_1_method_68_code
def yX11_dropsOf : MethodName := ⟨RX11, "dropsOf", "(II)I"⟩
def RX12 : String := "StoneMeetModel"
def TX12 : u_T := fun k => match k with
  | 0 => ("StoneMeetModel", "thrown", "I", false)
  | 1 => ("StoneMeetModel", "all", "[I", true)
  | 2 => ("StoneMeetModel", "hasImage", "[Z", true)
  | 3 => ("StoneMeetModel", "tape", "[I", true)
  | 4 => ("StoneMeetModel", "fresh", "[I", true)
  | 5 => ("StoneMeetModel", "taped", "I", false)
  | 6 => ("StoneMeetModel", "at", "I", false)
  | 7 => ("StoneMeetModel", "behind", "I", false)
  | 8 => ("StoneMeetModel", "size", "I", false)
  | 9 => ("StoneMeetModel", "kind", "I", false)
  | 10 => ("StoneMeetModel", "number", "I", false)
  | 11 => ("StoneMeetModel", "wrong", "I", false)
  | 12 => ("StoneMeetModel", "wrongAt", "I", false)
  | 13 => ("StoneMeetModel", "faultKind", "I", false)
  | 14 => ("StoneMeetModel", "faultPlace", "I", false)
  | 15 => ("StoneMeetModel", "reading", "I", false)
  | 16 => ("StoneMeetModel", "reckoned", "[I", true)
  | 17 => ("StoneMeetModel", "words", "[I", true)
  | 18 => ("StoneMeetModel", "grow", "[I", true)
  | 19 => ("StoneMeetModel", "fall", "[Z", true)
  | 20 => ("StoneMeetModel", "lead1", "[I", true)
  | 21 => ("StoneMeetModel", "leadMany", "I", false)
  | 22 => ("StoneMeetModel", "was", "[I", true)
  | 23 => ("StoneMeetModel", "toldWhy", "I", false)
  | 24 => ("StoneMeetModel", "x", "I", false)
  | 25 => ("StoneMeetModel", "row", "[I", true)
  | 26 => ("StoneMeetModel", "first", "[I", true)
  | 27 => ("StoneMeetModel", "tail", "I", false)
  | 28 => ("StoneMeetModel", "round", "I", false)
  | 29 => ("StoneMeetModel", "stand", "[I", true)
  | 30 => ("StoneMeetModel", "then", "[I", true)
  | 31 => ("StoneMeetModel", "far", "[I", true)
  | 32 => ("StoneMeetModel", "known", "[Z", true)
  | 33 => ("StoneMeetModel", "standMany", "I", false)
  | 34 => ("StoneMeetModel", "many", "[J", true)
  | 35 => ("StoneMeetModel", "manyThen", "[J", true)
  | 36 => ("StoneMeetModel", "often", "[I", true)
  | 37 => ("StoneMeetModel", "dried", "[I", true)
  | 38 => ("StoneMeetModel", "rowSort", "[I", true)
  | 39 => ("StoneMeetModel", "rowMany", "[I", true)
  | _ => ("StoneMeetModel", "numbers", "[J", true)
def tyX12 : Nat → FieldType := fun k => match k with
  | 0 => .int
  | 1 => .array .int
  | 2 => .array .boolean
  | 3 => .array .int
  | 4 => .array .int
  | 5 => .int
  | 6 => .int
  | 7 => .int
  | 8 => .int
  | 9 => .int
  | 10 => .int
  | 11 => .int
  | 12 => .int
  | 13 => .int
  | 14 => .int
  | 15 => .int
  | 16 => .array .int
  | 17 => .array .int
  | 18 => .array .int
  | 19 => .array .boolean
  | 20 => .array .int
  | 21 => .int
  | 22 => .array .int
  | 23 => .int
  | 24 => .int
  | 25 => .array .int
  | 26 => .array .int
  | 27 => .int
  | 28 => .int
  | 29 => .array .int
  | 30 => .array .int
  | 31 => .array .int
  | 32 => .array .boolean
  | 33 => .int
  | 34 => .array .long
  | 35 => .array .long
  | 36 => .array .int
  | 37 => .array .int
  | 38 => .array .int
  | 39 => .array .int
  | _ => .array .long
abbrev wsX120 : List Cond := u_ws RX12 TX12 41
theorem nmX12 : ∀ a, a < 41 → ∀ b, b < 41 → a ≠ b → (TX12 a).2.1 ≠ (TX12 b).2.1 := by decide +kernel
theorem tyX12_ok : ∀ k, k < 41 → parseFieldDescriptor (TX12 k).2.2.1 = some (tyX12 k) := by decide +kernel
abbrev cX12_within : ByteArray := prog_14_method_2_code
def yX12_within : MethodName := ⟨RX12, "within", "(JJJ)Z"⟩
abbrev cX12_init : ByteArray := prog_14_method_3_code
def yX12_init : MethodName := ⟨RX12, "<init>", "()V"⟩
abbrev cX12_plain : ByteArray := prog_14_method_4_code
def yX12_plain : MethodName := ⟨RX12, "plain", "([I)V"⟩
abbrev cX12_feed : ByteArray := prog_14_method_5_code
def yX12_feed : MethodName := ⟨RX12, "feed", "(IIIII)I"⟩
abbrev cX12_see : ByteArray := prog_14_method_6_code
def yX12_see : MethodName := ⟨RX12, "see", "(I)I"⟩
abbrev cX12_isSmall : ByteArray := prog_14_method_7_code
def yX12_isSmall : MethodName := ⟨RX12, "isSmall", "(I)Z"⟩
abbrev cX12_isDigit : ByteArray := prog_14_method_8_code
def yX12_isDigit : MethodName := ⟨RX12, "isDigit", "(I)Z"⟩
abbrev cX12_keyAt : ByteArray := prog_14_method_9_code
def yX12_keyAt : MethodName := ⟨RX12, "keyAt", "()I"⟩
abbrev cX12_next : ByteArray := prog_14_method_10_code
def yX12_next : MethodName := ⟨RX12, "next", "()V"⟩
abbrev cX12_fails : ByteArray := prog_14_method_11_code
def yX12_fails : MethodName := ⟨RX12, "fails", "(I)V"⟩
abbrev cX12_is : ByteArray := prog_14_method_12_code
def yX12_is : MethodName := ⟨RX12, "is", "(I)Z"⟩
abbrev cX12_eats : ByteArray := prog_14_method_13_code
def yX12_eats : MethodName := ⟨RX12, "eats", "(I)Z"⟩
abbrev cX12_takes : ByteArray := prog_14_method_14_code
def yX12_takes : MethodName := ⟨RX12, "takes", "(II)I"⟩
abbrev cX12_isIn : ByteArray := prog_14_method_15_code
def yX12_isIn : MethodName := ⟨RX12, "isIn", "(JI)Z"⟩
abbrev cX12_wordOf : ByteArray := prog_14_method_16_code
def yX12_wordOf : MethodName := ⟨RX12, "wordOf", "(I)I"⟩
abbrev cX12_codes : ByteArray := prog_14_method_17_code
def yX12_codes : MethodName := ⟨RX12, "codes", "(I)V"⟩
abbrev cX12_goesIn : ByteArray := prog_14_method_18_code
def yX12_goesIn : MethodName := ⟨RX12, "goesIn", "(I)Z"⟩
abbrev cX12_readAtom : ByteArray := prog_14_method_19_code
def yX12_readAtom : MethodName := ⟨RX12, "readAtom", "(I)V"⟩
abbrev cX12_readIf : ByteArray := prog_14_method_20_code
def yX12_readIf : MethodName := ⟨RX12, "readIf", "(I)V"⟩
abbrev cX12_readTerm : ByteArray := prog_14_method_21_code
def yX12_readTerm : MethodName := ⟨RX12, "readTerm", "(I)V"⟩
abbrev cX12_readSum : ByteArray := prog_14_method_22_code
def yX12_readSum : MethodName := ⟨RX12, "readSum", "(I)V"⟩
abbrev cX12_readUnit : ByteArray := prog_14_method_23_code
def yX12_readUnit : MethodName := ⟨RX12, "readUnit", "(I)V"⟩
abbrev cX12_readBoth : ByteArray := prog_14_method_24_code
def yX12_readBoth : MethodName := ⟨RX12, "readBoth", "(I)V"⟩
abbrev cX12_readTruth : ByteArray := prog_14_method_25_code
def yX12_readTruth : MethodName := ⟨RX12, "readTruth", "(I)V"⟩
abbrev cX12_readPair : ByteArray := prog_14_method_26_code
def yX12_readPair : MethodName := ⟨RX12, "readPair", "()V"⟩
abbrev cX12_readLead : ByteArray := prog_14_method_27_code
def yX12_readLead : MethodName := ⟨RX12, "readLead", "()V"⟩
abbrev cX12_readLaw : ByteArray := prog_14_method_28_code
def yX12_readLaw : MethodName := ⟨RX12, "readLaw", "(I)V"⟩
abbrev cX12_readLine : ByteArray := prog_14_method_29_code
def yX12_readLine : MethodName := ⟨RX12, "readLine", "()V"⟩
abbrev cX12_ends : ByteArray := prog_14_method_30_code
def yX12_ends : MethodName := ⟨RX12, "ends", "()V"⟩
abbrev cX12_cave : ByteArray := prog_14_method_31_code
def yX12_cave : MethodName := ⟨RX12, "cave", "(I)I"⟩
abbrev cX12_fault : ByteArray := prog_14_method_32_code
def yX12_fault : MethodName := ⟨RX12, "fault", "(I)I"⟩
abbrev cX12_isPair : ByteArray := prog_14_method_33_code
def yX12_isPair : MethodName := ⟨RX12, "isPair", "(J)Z"⟩
abbrev cX12_isSet : ByteArray := prog_14_method_34_code
def yX12_isSet : MethodName := ⟨RX12, "isSet", "(I)Z"⟩
abbrev cX12_isDry : ByteArray := prog_14_method_35_code
def yX12_isDry : MethodName := ⟨RX12, "isDry", "(J)Z"⟩
abbrev cX12_bitsOf : ByteArray := prog_14_method_36_code
def yX12_bitsOf : MethodName := ⟨RX12, "bitsOf", "(I)I"⟩
abbrev cX12_gapIn : ByteArray := prog_14_method_37_code
def yX12_gapIn : MethodName := ⟨RX12, "gapIn", "(II)I"⟩
abbrev cX12_dropsIn : ByteArray := prog_14_method_38_code
def yX12_dropsIn : MethodName := ⟨RX12, "dropsIn", "(II)I"⟩
abbrev cX12_hasFallen : ByteArray := prog_14_method_39_code
def yX12_hasFallen : MethodName := ⟨RX12, "hasFallen", "(I)Z"⟩
abbrev cX12_standNow : ByteArray := prog_14_method_40_code
def yX12_standNow : MethodName := ⟨RX12, "standNow", "()I"⟩
abbrev cX12_metIn : ByteArray := prog_14_method_41_code
def yX12_metIn : MethodName := ⟨RX12, "metIn", "(I)I"⟩
abbrev cX12_gapsIn : ByteArray := prog_14_method_42_code
def yX12_gapsIn : MethodName := ⟨RX12, "gapsIn", "(I)I"⟩
abbrev cX12_widestIn : ByteArray := prog_14_method_43_code
def yX12_widestIn : MethodName := ⟨RX12, "widestIn", "(I)I"⟩
abbrev cX12_isLead : ByteArray := prog_14_method_44_code
def yX12_isLead : MethodName := ⟨RX12, "isLead", "(J)Z"⟩
abbrev cX12_between : ByteArray := prog_14_method_45_code
def yX12_between : MethodName := ⟨RX12, "between", "(III)I"⟩
abbrev cX12_reckons : ByteArray := prog_14_method_46_code
def yX12_reckons : MethodName := ⟨RX12, "reckons", "(I)I"⟩
abbrev cX12_growsBy : ByteArray := prog_14_method_47_code
def yX12_growsBy : MethodName := ⟨RX12, "growsBy", "(IIIIII)I"⟩
abbrev cX12_fallsBy : ByteArray := prog_14_method_48_code
def yX12_fallsBy : MethodName := ⟨RX12, "fallsBy", "(II)Z"⟩
abbrev cX12_yearTo : ByteArray := prog_14_method_49_code
def yX12_yearTo : MethodName := ⟨RX12, "yearTo", "(III)I"⟩
abbrev cX12_growOf : ByteArray := prog_14_method_50_code
def yX12_growOf : MethodName := ⟨RX12, "growOf", "(IIIII)I"⟩
abbrev cX12_fallOf : ByteArray := prog_14_method_51_code
def yX12_fallOf : MethodName := ⟨RX12, "fallOf", "(IIII)I"⟩
abbrev cX12_fallsSo : ByteArray := prog_14_method_52_code
def yX12_fallsSo : MethodName := ⟨RX12, "fallsSo", "(IIII)Z"⟩
abbrev cX12_laysTables : ByteArray := prog_14_method_53_code
def yX12_laysTables : MethodName := ⟨RX12, "laysTables", "()V"⟩
abbrev cX12_yearBy : ByteArray := prog_14_method_54_code
def yX12_yearBy : MethodName := ⟨RX12, "yearBy", "(III)I"⟩
abbrev cX12_pair : ByteArray := prog_14_method_55_code
def yX12_pair : MethodName := ⟨RX12, "pair", "(II)I"⟩
abbrev cX12_grown : ByteArray := prog_14_method_56_code
def yX12_grown : MethodName := ⟨RX12, "grown", "(III)I"⟩
abbrev cX12_laysLeads : ByteArray := prog_14_method_57_code
def yX12_laysLeads : MethodName := ⟨RX12, "laysLeads", "()V"⟩
abbrev cX12_leadings : ByteArray := prog_14_method_58_code
def yX12_leadings : MethodName := ⟨RX12, "leadings", "()I"⟩
abbrev cX12_keeps : ByteArray := prog_14_method_59_code
def yX12_keeps : MethodName := ⟨RX12, "keeps", "()V"⟩
abbrev cX12_isAgain : ByteArray := prog_14_method_60_code
def yX12_isAgain : MethodName := ⟨RX12, "isAgain", "()V"⟩
abbrev cX12_notes : ByteArray := prog_14_method_61_code
def yX12_notes : MethodName := ⟨RX12, "notes", "()V"⟩
abbrev cX12_goesYear : ByteArray := prog_14_method_62_code
def yX12_goesYear : MethodName := ⟨RX12, "goesYear", "(I)V"⟩
abbrev cX12_whySaw : ByteArray := prog_14_method_63_code
def yX12_whySaw : MethodName := ⟨RX12, "whySaw", "(J)I"⟩
abbrev cX12_year : ByteArray := prog_14_method_64_code
def yX12_year : MethodName := ⟨RX12, "year", "(I)I"⟩
abbrev cX12_lead : ByteArray := prog_14_method_65_code
def yX12_lead : MethodName := ⟨RX12, "lead", "(I)I"⟩
abbrev cX12_saw : ByteArray := prog_14_method_66_code
def yX12_saw : MethodName := ⟨RX12, "saw", "(I)I"⟩
abbrev cX12_chalk : ByteArray := prog_14_method_67_code
def yX12_chalk : MethodName := ⟨RX12, "chalk", "(II)I"⟩
abbrev cX12_undo : ByteArray := prog_14_method_68_code
def yX12_undo : MethodName := ⟨RX12, "undo", "(I)I"⟩
abbrev cX12_whyNot : ByteArray := prog_14_method_69_code
def yX12_whyNot : MethodName := ⟨RX12, "whyNot", "(J)I"⟩
abbrev cX12_does : ByteArray := prog_14_method_70_code
def yX12_does : MethodName := ⟨RX12, "does", "(I)V"⟩
abbrev cX12_tells : ByteArray := prog_14_method_71_code
def yX12_tells : MethodName := ⟨RX12, "tells", "(I)I"⟩
abbrev cX12_noTray : ByteArray := prog_14_method_72_code
def yX12_noTray : MethodName := ⟨RX12, "noTray", "(I)I"⟩
abbrev cX12_judge : ByteArray := prog_14_method_73_code
def yX12_judge : MethodName := ⟨RX12, "judge", "(II)I"⟩
abbrev cX12_perform : ByteArray := prog_14_method_74_code
def yX12_perform : MethodName := ⟨RX12, "perform", "(I)I"⟩
abbrev cX12_draw : ByteArray := prog_14_method_75_code
def yX12_draw : MethodName := ⟨RX12, "draw", "(I)I"⟩
abbrev cX12_drawn : ByteArray := prog_14_method_76_code
def yX12_drawn : MethodName := ⟨RX12, "drawn", "()I"⟩
abbrev cX12_age : ByteArray := prog_14_method_77_code
def yX12_age : MethodName := ⟨RX12, "age", "(II)I"⟩
abbrev cX12_laysLed : ByteArray := prog_14_method_78_code
def yX12_laysLed : MethodName := ⟨RX12, "laysLed", "(I)V"⟩
abbrev cX12_ledAt : ByteArray := prog_14_method_79_code
def yX12_ledAt : MethodName := ⟨RX12, "ledAt", "(I)I"⟩
abbrev cX12_lies : ByteArray := prog_14_method_80_code
def yX12_lies : MethodName := ⟨RX12, "lies", "(II)I"⟩
abbrev cX12_metAt : ByteArray := prog_14_method_81_code
def yX12_metAt : MethodName := ⟨RX12, "metAt", "(I)I"⟩
abbrev cX12_meets : ByteArray := prog_14_method_82_code
def yX12_meets : MethodName := ⟨RX12, "meets", "(I)I"⟩
abbrev cX12_order : ByteArray := prog_14_method_83_code
def yX12_order : MethodName := ⟨RX12, "order", "(I)I"⟩
abbrev cX12_falls : ByteArray := prog_14_method_84_code
def yX12_falls : MethodName := ⟨RX12, "falls", "()I"⟩
abbrev cX12_placeOf : ByteArray := prog_14_method_85_code
def yX12_placeOf : MethodName := ⟨RX12, "placeOf", "(I)I"⟩
abbrev cX12_moved : ByteArray := prog_14_method_86_code
def yX12_moved : MethodName := ⟨RX12, "moved", "(III)I"⟩
abbrev cX12_adds : ByteArray := prog_14_method_87_code
def yX12_adds : MethodName := ⟨RX12, "adds", "(I)V"⟩
abbrev cX12_laysStands : ByteArray := prog_14_method_88_code
def yX12_laysStands : MethodName := ⟨RX12, "laysStands", "(Z)V"⟩
abbrev cX12_leastBy : ByteArray := prog_14_method_89_code
def yX12_leastBy : MethodName := ⟨RX12, "leastBy", "(I)I"⟩
abbrev cX12_laysFar : ByteArray := prog_14_method_90_code
def yX12_laysFar : MethodName := ⟨RX12, "laysFar", "()I"⟩
abbrev cX12_laysMeeting : ByteArray := prog_14_method_91_code
def yX12_laysMeeting : MethodName := ⟨RX12, "laysMeeting", "(I)I"⟩
abbrev cX12_toldFar : ByteArray := prog_14_method_92_code
def yX12_toldFar : MethodName := ⟨RX12, "toldFar", "(I)I"⟩
abbrev cX12_soonest : ByteArray := prog_14_method_93_code
def yX12_soonest : MethodName := ⟨RX12, "soonest", "(I)I"⟩
abbrev cX12_way : ByteArray := prog_14_method_94_code
def yX12_way : MethodName := ⟨RX12, "way", "(II)I"⟩
abbrev cX12_beginsMany : ByteArray := prog_14_method_95_code
def yX12_beginsMany : MethodName := ⟨RX12, "beginsMany", "()V"⟩
abbrev cX12_isThen : ByteArray := prog_14_method_96_code
def yX12_isThen : MethodName := ⟨RX12, "isThen", "()V"⟩
abbrev cX12_rows : ByteArray := prog_14_method_97_code
def yX12_rows : MethodName := ⟨RX12, "rows", "(II)J"⟩
abbrev cX12_most : ByteArray := prog_14_method_98_code
def yX12_most : MethodName := ⟨RX12, "most", "()I"⟩
abbrev cX12_holding : ByteArray := prog_14_method_99_code
def yX12_holding : MethodName := ⟨RX12, "holding", "()I"⟩
abbrev cX12_felling : ByteArray := prog_14_method_100_code
def yX12_felling : MethodName := ⟨RX12, "felling", "()I"⟩
abbrev cX12_stands : ByteArray := prog_14_method_101_code
def yX12_stands : MethodName := ⟨RX12, "stands", "()I"⟩
abbrev cX12_noSeen : ByteArray := prog_14_method_102_code
def yX12_noSeen : MethodName := ⟨RX12, "noSeen", "(II)I"⟩
abbrev cX12_dryIn : ByteArray := prog_14_method_103_code
def yX12_dryIn : MethodName := ⟨RX12, "dryIn", "(III)I"⟩
abbrev cX12_isSeen : ByteArray := prog_14_method_104_code
def yX12_isSeen : MethodName := ⟨RX12, "isSeen", "(III)Z"⟩
abbrev cX12_seen : ByteArray := prog_14_method_105_code
def yX12_seen : MethodName := ⟨RX12, "seen", "(II)I"⟩
abbrev cX12_seenDry : ByteArray := prog_14_method_106_code
def yX12_seenDry : MethodName := ⟨RX12, "seenDry", "(III)I"⟩
abbrev cX12_surely : ByteArray := prog_14_method_107_code
def yX12_surely : MethodName := ⟨RX12, "surely", "(III)I"⟩
abbrev cX12_chalksOf : ByteArray := prog_14_method_108_code
def yX12_chalksOf : MethodName := ⟨RX12, "chalksOf", "(II)I"⟩
abbrev cX12_chalks : ByteArray := prog_14_method_109_code
def yX12_chalks : MethodName := ⟨RX12, "chalks", "(II)I"⟩
abbrev cX12_mostOften : ByteArray := prog_14_method_110_code
def yX12_mostOften : MethodName := ⟨RX12, "mostOften", "(III)I"⟩
abbrev cX12_attempt : ByteArray := prog_14_method_111_code
def yX12_attempt : MethodName := ⟨RX12, "attempt", "(II)I"⟩
abbrev cX12_forcedBy : ByteArray := prog_14_method_112_code
def yX12_forcedBy : MethodName := ⟨RX12, "forcedBy", "(II)I"⟩
abbrev cX12_laysForced : ByteArray := prog_14_method_113_code
def yX12_laysForced : MethodName := ⟨RX12, "laysForced", "(I)I"⟩
abbrev cX12_forces : ByteArray := prog_14_method_114_code
def yX12_forces : MethodName := ⟨RX12, "forces", "(I)I"⟩
abbrev cX12_best : ByteArray := prog_14_method_115_code
def yX12_best : MethodName := ⟨RX12, "best", "(I)I"⟩
abbrev cX12_laysLikely : ByteArray := prog_14_method_116_code
def yX12_laysLikely : MethodName := ⟨RX12, "laysLikely", "(I)I"⟩
abbrev cX12_common : ByteArray := prog_14_method_117_code
def yX12_common : MethodName := ⟨RX12, "common", "(II)I"⟩
abbrev cX12_part : ByteArray := prog_14_method_118_code
def yX12_part : MethodName := ⟨RX12, "part", "(JII)I"⟩
abbrev cX12_noChance : ByteArray := prog_14_method_119_code
def yX12_noChance : MethodName := ⟨RX12, "noChance", "(ZII)I"⟩
abbrev cX12_chance : ByteArray := prog_14_method_120_code
def yX12_chance : MethodName := ⟨RX12, "chance", "(III)I"⟩
abbrev cX12_mean : ByteArray := prog_14_method_121_code
def yX12_mean : MethodName := ⟨RX12, "mean", "(III)I"⟩
abbrev cX12_fallen : ByteArray := prog_14_method_122_code
def yX12_fallen : MethodName := ⟨RX12, "fallen", "(II)I"⟩
abbrev cX12_cut : ByteArray := prog_14_method_123_code
def yX12_cut : MethodName := ⟨RX12, "cut", "(JI)J"⟩
abbrev cX12_numbers : ByteArray := prog_14_method_124_code
def yX12_numbers : MethodName := ⟨RX12, "numbers", "(III)I"⟩
abbrev cX12_write : ByteArray := prog_14_method_125_code
def yX12_write : MethodName := ⟨RX12, "write", "(IIJ)J"⟩
abbrev cX12_lists : ByteArray := prog_14_method_126_code
def yX12_lists : MethodName := ⟨RX12, "lists", "(II)I"⟩
abbrev cX12_image : ByteArray := prog_14_method_127_code
def yX12_image : MethodName := ⟨RX12, "image", "(I)I"⟩
abbrev cX12_restore : ByteArray := prog_14_method_128_code
def yX12_restore : MethodName := ⟨RX12, "restore", "(I)I"⟩
abbrev cX12_count : ByteArray := prog_14_method_129_code
def yX12_count : MethodName := ⟨RX12, "count", "(I)I"⟩
def RJx145de : String := "java/io/Serializable"
def TJx145de : u_T := fun k => match k with
  | _ => ("", "", "", false)
def tyJx145de : Nat → FieldType := fun k => match k with
  | _ => .int
abbrev wsJx145de0 : List Cond := u_ws RJx145de TJx145de 0
theorem nmJx145de : ∀ a, a < 0 → ∀ b, b < 0 → a ≠ b → (TJx145de a).2.1 ≠ (TJx145de b).2.1 := by decide +kernel
theorem tyJx145de_ok : ∀ k, k < 0 → parseFieldDescriptor (TJx145de k).2.2.1 = some (tyJx145de k) := by decide +kernel
def RJx9f9b0 : String := "java/lang/CharSequence"
def TJx9f9b0 : u_T := fun k => match k with
  | _ => ("", "", "", false)
def tyJx9f9b0 : Nat → FieldType := fun k => match k with
  | _ => .int
abbrev wsJx9f9b00 : List Cond := u_ws RJx9f9b0 TJx9f9b0 0
theorem nmJx9f9b0 : ∀ a, a < 0 → ∀ b, b < 0 → a ≠ b → (TJx9f9b0 a).2.1 ≠ (TJx9f9b0 b).2.1 := by decide +kernel
theorem tyJx9f9b0_ok : ∀ k, k < 0 → parseFieldDescriptor (TJx9f9b0 k).2.2.1 = some (tyJx9f9b0 k) := by decide +kernel
def RJ11 : String := "java/lang/Character"
def TJ11 : u_T := fun k => match k with
  | _ => ("", "", "", false)
def tyJ11 : Nat → FieldType := fun k => match k with
  | _ => .int
abbrev wsJ110 : List Cond := u_ws RJ11 TJ11 0
theorem nmJ11 : ∀ a, a < 0 → ∀ b, b < 0 → a ≠ b → (TJ11 a).2.1 ≠ (TJ11 b).2.1 := by decide +kernel
theorem tyJ11_ok : ∀ k, k < 0 → parseFieldDescriptor (TJ11 k).2.2.1 = some (tyJ11 k) := by decide +kernel
abbrev cJ11_isValidCodePoint_9a6ad : ByteArray := prog_15_method_11_code
def yJ11_isValidCodePoint_9a6ad : MethodName := ⟨RJ11, "isValidCodePoint", "(I)Z"⟩
abbrev cJ11_highSurrogate_5068e : ByteArray := prog_15_method_28_code
def yJ11_highSurrogate_5068e : MethodName := ⟨RJ11, "highSurrogate", "(I)C"⟩
abbrev cJ11_lowSurrogate_5068e : ByteArray := prog_15_method_29_code
def yJ11_lowSurrogate_5068e : MethodName := ⟨RJ11, "lowSurrogate", "(I)C"⟩
def RJx8e188 : String := "java/lang/Cloneable"
def TJx8e188 : u_T := fun k => match k with
  | _ => ("", "", "", false)
def tyJx8e188 : Nat → FieldType := fun k => match k with
  | _ => .int
abbrev wsJx8e1880 : List Cond := u_ws RJx8e188 TJx8e188 0
theorem nmJx8e188 : ∀ a, a < 0 → ∀ b, b < 0 → a ≠ b → (TJx8e188 a).2.1 ≠ (TJx8e188 b).2.1 := by decide +kernel
theorem tyJx8e188_ok : ∀ k, k < 0 → parseFieldDescriptor (TJx8e188 k).2.2.1 = some (tyJx8e188 k) := by decide +kernel
def RJxb160c : String := "java/lang/Comparable"
def TJxb160c : u_T := fun k => match k with
  | _ => ("", "", "", false)
def tyJxb160c : Nat → FieldType := fun k => match k with
  | _ => .int
abbrev wsJxb160c0 : List Cond := u_ws RJxb160c TJxb160c 0
theorem nmJxb160c : ∀ a, a < 0 → ∀ b, b < 0 → a ≠ b → (TJxb160c a).2.1 ≠ (TJxb160c b).2.1 := by decide +kernel
theorem tyJxb160c_ok : ∀ k, k < 0 → parseFieldDescriptor (TJxb160c k).2.2.1 = some (tyJxb160c k) := by decide +kernel
def RJ9 : String := "java/lang/Math"
def TJ9 : u_T := fun k => match k with
  | _ => ("", "", "", false)
def tyJ9 : Nat → FieldType := fun k => match k with
  | _ => .int
abbrev wsJ90 : List Cond := u_ws RJ9 TJ9 0
theorem nmJ9 : ∀ a, a < 0 → ∀ b, b < 0 → a ≠ b → (TJ9 a).2.1 ≠ (TJ9 b).2.1 := by decide +kernel
theorem tyJ9_ok : ∀ k, k < 0 → parseFieldDescriptor (TJ9 k).2.2.1 = some (tyJ9 k) := by decide +kernel
abbrev cJ9_max_7cf53 : ByteArray := prog_17_method_65_code
def yJ9_max_7cf53 : MethodName := ⟨RJ9, "max", "(II)I"⟩
abbrev cJ9_min_7cf53 : ByteArray := prog_17_method_69_code
def yJ9_min_7cf53 : MethodName := ⟨RJ9, "min", "(II)I"⟩
def RJ0 : String := "java/lang/String"
def TJ0 : u_T := fun k => match k with
  | _ => ("", "", "", false)
def tyJ0 : Nat → FieldType := fun k => match k with
  | _ => .int
abbrev wsJ00 : List Cond := u_ws RJ0 TJ0 0
theorem nmJ0 : ∀ a, a < 0 → ∀ b, b < 0 → a ≠ b → (TJ0 a).2.1 ≠ (TJ0 b).2.1 := by decide +kernel
theorem tyJ0_ok : ∀ k, k < 0 → parseFieldDescriptor (TJ0 k).2.2.1 = some (tyJ0 k) := by decide +kernel
abbrev cJ0_length_8abf5 : ByteArray := prog_18_method_54_code
def yJ0_length_8abf5 : MethodName := ⟨RJ0, "length", "()I"⟩
abbrev cJ0_charAt_5068e : ByteArray := prog_18_method_56_code
def yJ0_charAt_5068e : MethodName := ⟨RJ0, "charAt", "(I)C"⟩
abbrev cJ0_indexOf_0f7a4 : ByteArray := prog_18_method_79_code
def yJ0_indexOf_0f7a4 : MethodName := ⟨RJ0, "indexOf", "(I)I"⟩
abbrev cJ0_indexOf_7cf53 : ByteArray := prog_18_method_80_code
def yJ0_indexOf_7cf53 : MethodName := ⟨RJ0, "indexOf", "(II)I"⟩
abbrev cJ0_coder_7d493 : ByteArray := prog_18_method_152_code
def yJ0_coder_7d493 : MethodName := ⟨RJ0, "coder", "()B"⟩
abbrev cJ0_isLatin1_aae02 : ByteArray := prog_18_method_154_code
def yJ0_isLatin1_aae02 : MethodName := ⟨RJ0, "isLatin1", "()Z"⟩
abbrev cJ0_checkIndex_df160 : ByteArray := prog_18_method_155_code
def yJ0_checkIndex_df160 : MethodName := ⟨RJ0, "checkIndex", "(II)V"⟩
abbrev cJ0_checkBoundsBeginEnd_23922 : ByteArray := prog_18_method_158_code
def yJ0_checkBoundsBeginEnd_23922 : MethodName := ⟨RJ0, "checkBoundsBeginEnd", "(III)V"⟩
def RJ1 : String := "java/lang/StringLatin1"
def TJ1 : u_T := fun k => match k with
  | _ => ("", "", "", false)
def tyJ1 : Nat → FieldType := fun k => match k with
  | _ => .int
abbrev wsJ10 : List Cond := u_ws RJ1 TJ1 0
theorem nmJ1 : ∀ a, a < 0 → ∀ b, b < 0 → a ≠ b → (TJ1 a).2.1 ≠ (TJ1 b).2.1 := by decide +kernel
theorem tyJ1_ok : ∀ k, k < 0 → parseFieldDescriptor (TJ1 k).2.2.1 = some (tyJ1 k) := by decide +kernel
abbrev cJ1_charAt_3b067 : ByteArray := prog_19_method_2_code
def yJ1_charAt_3b067 : MethodName := ⟨RJ1, "charAt", "([BI)C"⟩
abbrev cJ1_canEncode_9a6ad : ByteArray := prog_19_method_4_code
def yJ1_canEncode_9a6ad : MethodName := ⟨RJ1, "canEncode", "(I)Z"⟩
abbrev cJ1_indexOf_4cfef : ByteArray := prog_19_method_22_code
def yJ1_indexOf_4cfef : MethodName := ⟨RJ1, "indexOf", "([BIII)I"⟩
abbrev cJ1_indexOfChar_4cfef : ByteArray := prog_19_method_23_code
def yJ1_indexOfChar_4cfef : MethodName := ⟨RJ1, "indexOfChar", "([BIII)I"⟩
def RJ2 : String := "java/lang/StringUTF16"
def TJ2 : u_T := fun k => match k with
  | _ => ("", "", "", false)
def tyJ2 : Nat → FieldType := fun k => match k with
  | _ => .int
abbrev wsJ20 : List Cond := u_ws RJ2 TJ2 0
theorem nmJ2 : ∀ a, a < 0 → ∀ b, b < 0 → a ≠ b → (TJ2 a).2.1 ≠ (TJ2 b).2.1 := by decide +kernel
theorem tyJ2_ok : ∀ k, k < 0 → parseFieldDescriptor (TJ2 k).2.2.1 = some (tyJ2 k) := by decide +kernel
abbrev cJ2_getChar_3b067 : ByteArray := prog_20_method_5_code
def yJ2_getChar_3b067 : MethodName := ⟨RJ2, "getChar", "([BI)C"⟩
abbrev cJ2_length_9d52b : ByteArray := prog_20_method_6_code
def yJ2_length_9d52b : MethodName := ⟨RJ2, "length", "([B)I"⟩
abbrev cJ2_indexOf_4cfef : ByteArray := prog_20_method_40_code
def yJ2_indexOf_4cfef : MethodName := ⟨RJ2, "indexOf", "([BIII)I"⟩
abbrev cJ2_indexOfChar_4cfef : ByteArray := prog_20_method_47_code
def yJ2_indexOfChar_4cfef : MethodName := ⟨RJ2, "indexOfChar", "([BIII)I"⟩
abbrev cJ2_indexOfCharUnsafe_4cfef : ByteArray := prog_20_method_48_code
def yJ2_indexOfCharUnsafe_4cfef : MethodName := ⟨RJ2, "indexOfCharUnsafe", "([BIII)I"⟩
abbrev cJ2_indexOfSupplementary_4cfef : ByteArray := prog_20_method_49_code
def yJ2_indexOfSupplementary_4cfef : MethodName := ⟨RJ2, "indexOfSupplementary", "([BIII)I"⟩
abbrev cJ2_charAt_3b067 : ByteArray := prog_20_method_83_code
def yJ2_charAt_3b067 : MethodName := ⟨RJ2, "charAt", "([BI)C"⟩
abbrev cJ2_checkIndex_2214a : ByteArray := prog_20_method_91_code
def yJ2_checkIndex_2214a : MethodName := ⟨RJ2, "checkIndex", "(I[B)V"⟩
abbrev cJ2_checkBoundsBeginEnd_d044e : ByteArray := prog_20_method_93_code
def yJ2_checkBoundsBeginEnd_d044e : MethodName := ⟨RJ2, "checkBoundsBeginEnd", "(II[B)V"⟩
def RJ10 : String := "java/lang/System"
def TJ10 : u_T := fun k => match k with
  | _ => ("", "", "", false)
def tyJ10 : Nat → FieldType := fun k => match k with
  | _ => .int
abbrev wsJ100 : List Cond := u_ws RJ10 TJ10 0
theorem nmJ10 : ∀ a, a < 0 → ∀ b, b < 0 → a ≠ b → (TJ10 a).2.1 ≠ (TJ10 b).2.1 := by decide +kernel
theorem tyJ10_ok : ∀ k, k < 0 → parseFieldDescriptor (TJ10 k).2.2.1 = some (tyJ10 k) := by decide +kernel
def RJxfd54e : String := "java/lang/constant/Constable"
def TJxfd54e : u_T := fun k => match k with
  | _ => ("", "", "", false)
def tyJxfd54e : Nat → FieldType := fun k => match k with
  | _ => .int
abbrev wsJxfd54e0 : List Cond := u_ws RJxfd54e TJxfd54e 0
theorem nmJxfd54e : ∀ a, a < 0 → ∀ b, b < 0 → a ≠ b → (TJxfd54e a).2.1 ≠ (TJxfd54e b).2.1 := by decide +kernel
theorem tyJxfd54e_ok : ∀ k, k < 0 → parseFieldDescriptor (TJxfd54e k).2.2.1 = some (tyJxfd54e k) := by decide +kernel
def RJx3cf43 : String := "java/lang/constant/ConstantDesc"
def TJx3cf43 : u_T := fun k => match k with
  | _ => ("", "", "", false)
def tyJx3cf43 : Nat → FieldType := fun k => match k with
  | _ => .int
abbrev wsJx3cf430 : List Cond := u_ws RJx3cf43 TJx3cf43 0
theorem nmJx3cf43 : ∀ a, a < 0 → ∀ b, b < 0 → a ≠ b → (TJx3cf43 a).2.1 ≠ (TJx3cf43 b).2.1 := by decide +kernel
theorem tyJx3cf43_ok : ∀ k, k < 0 → parseFieldDescriptor (TJx3cf43 k).2.2.1 = some (tyJx3cf43 k) := by decide +kernel
def RJ7 : String := "java/util/Arrays"
def TJ7 : u_T := fun k => match k with
  | _ => ("", "", "", false)
def tyJ7 : Nat → FieldType := fun k => match k with
  | _ => .int
abbrev wsJ70 : List Cond := u_ws RJ7 TJ7 0
theorem nmJ7 : ∀ a, a < 0 → ∀ b, b < 0 → a ≠ b → (TJ7 a).2.1 ≠ (TJ7 b).2.1 := by decide +kernel
theorem tyJ7_ok : ∀ k, k < 0 → parseFieldDescriptor (TJ7 k).2.2.1 = some (tyJ7 k) := by decide +kernel
abbrev cJ7_fill_d0a16 : ByteArray := prog_22_method_101_code
def yJ7_fill_d0a16 : MethodName := ⟨RJ7, "fill", "([JJ)V"⟩
abbrev cJ7_fill_53178 : ByteArray := prog_22_method_103_code
def yJ7_fill_53178 : MethodName := ⟨RJ7, "fill", "([II)V"⟩
abbrev cJ7_fill_031fb : ByteArray := prog_22_method_109_code
def yJ7_fill_031fb : MethodName := ⟨RJ7, "fill", "([BB)V"⟩
abbrev cJ7_copyOf_59c91 : ByteArray := prog_22_method_123_code
def yJ7_copyOf_59c91 : MethodName := ⟨RJ7, "copyOf", "([II)[I"⟩
def RJ3 : String := "jdk/internal/util/Preconditions"
def TJ3 : u_T := fun k => match k with
  | _ => ("", "", "", false)
def tyJ3 : Nat → FieldType := fun k => match k with
  | _ => .int
abbrev wsJ30 : List Cond := u_ws RJ3 TJ3 0
theorem nmJ3 : ∀ a, a < 0 → ∀ b, b < 0 → a ≠ b → (TJ3 a).2.1 ≠ (TJ3 b).2.1 := by decide +kernel
theorem tyJ3_ok : ∀ k, k < 0 → parseFieldDescriptor (TJ3 k).2.2.1 = some (tyJ3 k) := by decide +kernel
abbrev cJ3_checkIndex_8e157 : ByteArray := prog_23_method_11_code
def yJ3_checkIndex_8e157 : MethodName := ⟨RJ3, "checkIndex", "(IILjava/util/function/BiFunction;)I"⟩
abbrev cJ3_checkFromToIndex_8c36e : ByteArray := prog_23_method_12_code
def yJ3_checkFromToIndex_8c36e : MethodName := ⟨RJ3, "checkFromToIndex", "(IIILjava/util/function/BiFunction;)I"⟩
def RL : String := "StoneMeetLaw"
abbrev cL_law : ByteArray := code
def yL_law : MethodName := ⟨RL, "law", "([I)Z"⟩
