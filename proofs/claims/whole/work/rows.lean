section
-- ===== PART A: goes FIRST, ahead of the names: the tables' words, and 'selects' of the private methods out of them =====
/-- a private method of a class that the tables say can be made, by its rows of tables_1 -/
def lw_okq (q : MethodName × Nat) : Prop := (q.1.cls ≠ "java/lang/invoke/MethodHandle" ∧ q.1.cls ≠ "java/lang/invoke/VarHandle") ∧ Cond.instantiable q.1.cls q.2 ∈ tables_1 ∧ Cond.privateMethod q.1 ∈ tables_1 ∧ Cond.instanceMethod q.1 ∈ tables_1
theorem lw_p0 : lw_okq (⟨"DuelSamples", "refuse", "(I)I"⟩, 9) := ⟨⟨by decide +kernel, by decide +kernel⟩, List.mem_of_getElem? (i := 17) (by decide +kernel), List.mem_of_getElem? (i := 185) (by decide +kernel), List.mem_of_getElem? (i := 186) (by decide +kernel)⟩
theorem lw_p1 : lw_okq (⟨"DuelSamples", "knownOf", "(II)I"⟩, 9) := ⟨⟨by decide +kernel, by decide +kernel⟩, List.mem_of_getElem? (i := 17) (by decide +kernel), List.mem_of_getElem? (i := 252) (by decide +kernel), List.mem_of_getElem? (i := 253) (by decide +kernel)⟩
theorem lw_p2 : lw_okq (⟨"DuelSamples", "changeMethod", "(I)I"⟩, 9) := ⟨⟨by decide +kernel, by decide +kernel⟩, List.mem_of_getElem? (i := 17) (by decide +kernel), List.mem_of_getElem? (i := 273) (by decide +kernel), List.mem_of_getElem? (i := 274) (by decide +kernel)⟩
theorem lw_p3 : lw_okq (⟨"DuelSamples$Course", "openFrom", "(I)I"⟩, 10) := ⟨⟨by decide +kernel, by decide +kernel⟩, List.mem_of_getElem? (i := 46) (by decide +kernel), List.mem_of_getElem? (i := 295) (by decide +kernel), List.mem_of_getElem? (i := 296) (by decide +kernel)⟩
theorem lw_p4 : lw_okq (⟨"DuelSamples$Course", "isOpen", "(I)Z"⟩, 10) := ⟨⟨by decide +kernel, by decide +kernel⟩, List.mem_of_getElem? (i := 46) (by decide +kernel), List.mem_of_getElem? (i := 299) (by decide +kernel), List.mem_of_getElem? (i := 300) (by decide +kernel)⟩
theorem lw_p5 : lw_okq (⟨"DuelSamples$Course", "byDistance", "(LDuelSamples$Roster;I)I"⟩, 10) := ⟨⟨by decide +kernel, by decide +kernel⟩, List.mem_of_getElem? (i := 46) (by decide +kernel), List.mem_of_getElem? (i := 303) (by decide +kernel), List.mem_of_getElem? (i := 304) (by decide +kernel)⟩
theorem lw_p6 : lw_okq (⟨"DuelSamples$Course", "pickOfStratum", "(LDuelSamples$Roster;)V"⟩, 10) := ⟨⟨by decide +kernel, by decide +kernel⟩, List.mem_of_getElem? (i := 46) (by decide +kernel), List.mem_of_getElem? (i := 314) (by decide +kernel), List.mem_of_getElem? (i := 315) (by decide +kernel)⟩
theorem lw_p7 : lw_okq (⟨"DuelSamples$Course", "openOfStratum", "(LDuelSamples$Roster;II)I"⟩, 10) := ⟨⟨by decide +kernel, by decide +kernel⟩, List.mem_of_getElem? (i := 46) (by decide +kernel), List.mem_of_getElem? (i := 318) (by decide +kernel), List.mem_of_getElem? (i := 319) (by decide +kernel)⟩
theorem lw_p8 : lw_okq (⟨"DuelSamples$Course", "pickByChance", "()V"⟩, 10) := ⟨⟨by decide +kernel, by decide +kernel⟩, List.mem_of_getElem? (i := 46) (by decide +kernel), List.mem_of_getElem? (i := 322) (by decide +kernel), List.mem_of_getElem? (i := 323) (by decide +kernel)⟩
theorem lw_p9 : lw_okq (⟨"DuelSamples$Course", "mostLeftBut", "(I)I"⟩, 10) := ⟨⟨by decide +kernel, by decide +kernel⟩, List.mem_of_getElem? (i := 46) (by decide +kernel), List.mem_of_getElem? (i := 326) (by decide +kernel), List.mem_of_getElem? (i := 327) (by decide +kernel)⟩
theorem lw_p10 : lw_okq (⟨"DuelSamples$Course", "chancesOfBoth", "()I"⟩, 10) := ⟨⟨by decide +kernel, by decide +kernel⟩, List.mem_of_getElem? (i := 46) (by decide +kernel), List.mem_of_getElem? (i := 331) (by decide +kernel), List.mem_of_getElem? (i := 332) (by decide +kernel)⟩
theorem lw_p11 : lw_okq (⟨"DuelSamples$Course", "leftOfBoth", "()I"⟩, 10) := ⟨⟨by decide +kernel, by decide +kernel⟩, List.mem_of_getElem? (i := 46) (by decide +kernel), List.mem_of_getElem? (i := 335) (by decide +kernel), List.mem_of_getElem? (i := 336) (by decide +kernel)⟩
theorem lw_p12 : lw_okq (⟨"DuelSamples$Course", "chancesOfFirst", "()I"⟩, 10) := ⟨⟨by decide +kernel, by decide +kernel⟩, List.mem_of_getElem? (i := 46) (by decide +kernel), List.mem_of_getElem? (i := 344) (by decide +kernel), List.mem_of_getElem? (i := 345) (by decide +kernel)⟩
theorem lw_p13 : lw_okq (⟨"DuelSamples$Course", "write", "(Z)V"⟩, 10) := ⟨⟨by decide +kernel, by decide +kernel⟩, List.mem_of_getElem? (i := 46) (by decide +kernel), List.mem_of_getElem? (i := 348) (by decide +kernel), List.mem_of_getElem? (i := 349) (by decide +kernel)⟩
theorem lw_p14 : lw_okq (⟨"DuelSamples$Course", "leave", "(II)V"⟩, 10) := ⟨⟨by decide +kernel, by decide +kernel⟩, List.mem_of_getElem? (i := 46) (by decide +kernel), List.mem_of_getElem? (i := 356) (by decide +kernel), List.mem_of_getElem? (i := 357) (by decide +kernel)⟩
theorem lw_p15 : lw_okq (⟨"DuelSamples", "walksWith", "(III)I"⟩, 9) := ⟨⟨by decide +kernel, by decide +kernel⟩, List.mem_of_getElem? (i := 17) (by decide +kernel), List.mem_of_getElem? (i := 426) (by decide +kernel), List.mem_of_getElem? (i := 427) (by decide +kernel)⟩
def lw_privs_1 : List (MethodName × Nat) := [(⟨"DuelSamples", "refuse", "(I)I"⟩, 9), (⟨"DuelSamples", "knownOf", "(II)I"⟩, 9), (⟨"DuelSamples", "changeMethod", "(I)I"⟩, 9), (⟨"DuelSamples$Course", "openFrom", "(I)I"⟩, 10), (⟨"DuelSamples$Course", "isOpen", "(I)Z"⟩, 10), (⟨"DuelSamples$Course", "byDistance", "(LDuelSamples$Roster;I)I"⟩, 10), (⟨"DuelSamples$Course", "pickOfStratum", "(LDuelSamples$Roster;)V"⟩, 10), (⟨"DuelSamples$Course", "openOfStratum", "(LDuelSamples$Roster;II)I"⟩, 10), (⟨"DuelSamples$Course", "pickByChance", "()V"⟩, 10), (⟨"DuelSamples$Course", "mostLeftBut", "(I)I"⟩, 10), (⟨"DuelSamples$Course", "chancesOfBoth", "()I"⟩, 10), (⟨"DuelSamples$Course", "leftOfBoth", "()I"⟩, 10), (⟨"DuelSamples$Course", "chancesOfFirst", "()I"⟩, 10), (⟨"DuelSamples$Course", "write", "(Z)V"⟩, 10), (⟨"DuelSamples$Course", "leave", "(II)V"⟩, 10), (⟨"DuelSamples", "walksWith", "(III)I"⟩, 9)]
theorem lw_r1 : ∀ q ∈ lw_privs_1, lw_okq q := List.forall_mem_cons.mpr ⟨lw_p0, List.forall_mem_cons.mpr ⟨lw_p1, List.forall_mem_cons.mpr ⟨lw_p2, List.forall_mem_cons.mpr ⟨lw_p3, List.forall_mem_cons.mpr ⟨lw_p4, List.forall_mem_cons.mpr ⟨lw_p5, List.forall_mem_cons.mpr ⟨lw_p6, List.forall_mem_cons.mpr ⟨lw_p7, List.forall_mem_cons.mpr ⟨lw_p8, List.forall_mem_cons.mpr ⟨lw_p9, List.forall_mem_cons.mpr ⟨lw_p10, List.forall_mem_cons.mpr ⟨lw_p11, List.forall_mem_cons.mpr ⟨lw_p12, List.forall_mem_cons.mpr ⟨lw_p13, List.forall_mem_cons.mpr ⟨lw_p14, List.forall_mem_cons.mpr ⟨lw_p15, fun _ h => absurd h List.not_mem_nil⟩⟩⟩⟩⟩⟩⟩⟩⟩⟩⟩⟩⟩⟩⟩⟩
theorem lw_p16 : lw_okq (⟨"DuelSamples$Reach", "mark", "(I)V"⟩, 3) := ⟨⟨by decide +kernel, by decide +kernel⟩, List.mem_of_getElem? (i := 86) (by decide +kernel), List.mem_of_getElem? (i := 456) (by decide +kernel), List.mem_of_getElem? (i := 457) (by decide +kernel)⟩
theorem lw_p17 : lw_okq (⟨"DuelSamples$Reach", "isSeen", "(I)Z"⟩, 3) := ⟨⟨by decide +kernel, by decide +kernel⟩, List.mem_of_getElem? (i := 86) (by decide +kernel), List.mem_of_getElem? (i := 484) (by decide +kernel), List.mem_of_getElem? (i := 485) (by decide +kernel)⟩
theorem lw_p18 : lw_okq (⟨"DuelSamples$Script", "skipBlanks", "()V"⟩, 7) := ⟨⟨by decide +kernel, by decide +kernel⟩, List.mem_of_getElem? (i := 103) (by decide +kernel), List.mem_of_getElem? (i := 538) (by decide +kernel), List.mem_of_getElem? (i := 539) (by decide +kernel)⟩
theorem lw_p19 : lw_okq (⟨"DuelSamples$Script", "byteAt", "(I)I"⟩, 7) := ⟨⟨by decide +kernel, by decide +kernel⟩, List.mem_of_getElem? (i := 103) (by decide +kernel), List.mem_of_getElem? (i := 542) (by decide +kernel), List.mem_of_getElem? (i := 543) (by decide +kernel)⟩
theorem lw_p20 : lw_okq (⟨"DuelSamples$Script", "readSentence", "()I"⟩, 7) := ⟨⟨by decide +kernel, by decide +kernel⟩, List.mem_of_getElem? (i := 103) (by decide +kernel), List.mem_of_getElem? (i := 546) (by decide +kernel), List.mem_of_getElem? (i := 547) (by decide +kernel)⟩
theorem lw_p21 : lw_okq (⟨"DuelSamples$Script", "readWord", "()I"⟩, 7) := ⟨⟨by decide +kernel, by decide +kernel⟩, List.mem_of_getElem? (i := 103) (by decide +kernel), List.mem_of_getElem? (i := 550) (by decide +kernel), List.mem_of_getElem? (i := 551) (by decide +kernel)⟩
theorem lw_p22 : lw_okq (⟨"DuelSamples$Script", "stands", "(Ljava/lang/String;II)Z"⟩, 7) := ⟨⟨by decide +kernel, by decide +kernel⟩, List.mem_of_getElem? (i := 103) (by decide +kernel), List.mem_of_getElem? (i := 571) (by decide +kernel), List.mem_of_getElem? (i := 572) (by decide +kernel)⟩
theorem lw_p23 : lw_okq (⟨"DuelSamples$Script", "readNumber", "(I)I"⟩, 7) := ⟨⟨by decide +kernel, by decide +kernel⟩, List.mem_of_getElem? (i := 103) (by decide +kernel), List.mem_of_getElem? (i := 626) (by decide +kernel), List.mem_of_getElem? (i := 627) (by decide +kernel)⟩
theorem lw_p24 : lw_okq (⟨"DuelSamples$Script", "mayStand", "(III)Z"⟩, 7) := ⟨⟨by decide +kernel, by decide +kernel⟩, List.mem_of_getElem? (i := 103) (by decide +kernel), List.mem_of_getElem? (i := 630) (by decide +kernel), List.mem_of_getElem? (i := 631) (by decide +kernel)⟩
theorem lw_p25 : lw_okq (⟨"DuelSamples", "perform", "(I)V"⟩, 9) := ⟨⟨by decide +kernel, by decide +kernel⟩, List.mem_of_getElem? (i := 17) (by decide +kernel), List.mem_of_getElem? (i := 640) (by decide +kernel), List.mem_of_getElem? (i := 641) (by decide +kernel)⟩
theorem lw_p26 : lw_okq (⟨"DuelSamples", "state", "(I)I"⟩, 9) := ⟨⟨by decide +kernel, by decide +kernel⟩, List.mem_of_getElem? (i := 17) (by decide +kernel), List.mem_of_getElem? (i := 681) (by decide +kernel), List.mem_of_getElem? (i := 682) (by decide +kernel)⟩
theorem lw_p27 : lw_okq (⟨"DuelSamplesModel", "bad", "(I)I"⟩, 23) := ⟨⟨by decide +kernel, by decide +kernel⟩, List.mem_of_getElem? (i := 691) (by decide +kernel), List.mem_of_getElem? (i := 778) (by decide +kernel), List.mem_of_getElem? (i := 779) (by decide +kernel)⟩
theorem lw_p28 : lw_okq (⟨"DuelSamplesModel", "full", "()I"⟩, 23) := ⟨⟨by decide +kernel, by decide +kernel⟩, List.mem_of_getElem? (i := 691) (by decide +kernel), List.mem_of_getElem? (i := 782) (by decide +kernel), List.mem_of_getElem? (i := 783) (by decide +kernel)⟩
theorem lw_p29 : lw_okq (⟨"DuelSamplesModel", "lays", "(IIIII)V"⟩, 23) := ⟨⟨by decide +kernel, by decide +kernel⟩, List.mem_of_getElem? (i := 691) (by decide +kernel), List.mem_of_getElem? (i := 786) (by decide +kernel), List.mem_of_getElem? (i := 787) (by decide +kernel)⟩
theorem lw_p30 : lw_okq (⟨"DuelSamplesModel", "isUnit", "(I)Z"⟩, 23) := ⟨⟨by decide +kernel, by decide +kernel⟩, List.mem_of_getElem? (i := 691) (by decide +kernel), List.mem_of_getElem? (i := 794) (by decide +kernel), List.mem_of_getElem? (i := 795) (by decide +kernel)⟩
theorem lw_p31 : lw_okq (⟨"DuelSamplesModel", "becomes", "(III)I"⟩, 23) := ⟨⟨by decide +kernel, by decide +kernel⟩, List.mem_of_getElem? (i := 691) (by decide +kernel), List.mem_of_getElem? (i := 799) (by decide +kernel), List.mem_of_getElem? (i := 800) (by decide +kernel)⟩
def lw_privs_2 : List (MethodName × Nat) := [(⟨"DuelSamples$Reach", "mark", "(I)V"⟩, 3), (⟨"DuelSamples$Reach", "isSeen", "(I)Z"⟩, 3), (⟨"DuelSamples$Script", "skipBlanks", "()V"⟩, 7), (⟨"DuelSamples$Script", "byteAt", "(I)I"⟩, 7), (⟨"DuelSamples$Script", "readSentence", "()I"⟩, 7), (⟨"DuelSamples$Script", "readWord", "()I"⟩, 7), (⟨"DuelSamples$Script", "stands", "(Ljava/lang/String;II)Z"⟩, 7), (⟨"DuelSamples$Script", "readNumber", "(I)I"⟩, 7), (⟨"DuelSamples$Script", "mayStand", "(III)Z"⟩, 7), (⟨"DuelSamples", "perform", "(I)V"⟩, 9), (⟨"DuelSamples", "state", "(I)I"⟩, 9), (⟨"DuelSamplesModel", "bad", "(I)I"⟩, 23), (⟨"DuelSamplesModel", "full", "()I"⟩, 23), (⟨"DuelSamplesModel", "lays", "(IIIII)V"⟩, 23), (⟨"DuelSamplesModel", "isUnit", "(I)Z"⟩, 23), (⟨"DuelSamplesModel", "becomes", "(III)I"⟩, 23)]
theorem lw_r2 : ∀ q ∈ lw_privs_2, lw_okq q := List.forall_mem_cons.mpr ⟨lw_p16, List.forall_mem_cons.mpr ⟨lw_p17, List.forall_mem_cons.mpr ⟨lw_p18, List.forall_mem_cons.mpr ⟨lw_p19, List.forall_mem_cons.mpr ⟨lw_p20, List.forall_mem_cons.mpr ⟨lw_p21, List.forall_mem_cons.mpr ⟨lw_p22, List.forall_mem_cons.mpr ⟨lw_p23, List.forall_mem_cons.mpr ⟨lw_p24, List.forall_mem_cons.mpr ⟨lw_p25, List.forall_mem_cons.mpr ⟨lw_p26, List.forall_mem_cons.mpr ⟨lw_p27, List.forall_mem_cons.mpr ⟨lw_p28, List.forall_mem_cons.mpr ⟨lw_p29, List.forall_mem_cons.mpr ⟨lw_p30, List.forall_mem_cons.mpr ⟨lw_p31, fun _ h => absurd h List.not_mem_nil⟩⟩⟩⟩⟩⟩⟩⟩⟩⟩⟩⟩⟩⟩⟩⟩
theorem lw_p32 : lw_okq (⟨"DuelSamplesModel", "at", "(II)I"⟩, 23) := ⟨⟨by decide +kernel, by decide +kernel⟩, List.mem_of_getElem? (i := 691) (by decide +kernel), List.mem_of_getElem? (i := 803) (by decide +kernel), List.mem_of_getElem? (i := 804) (by decide +kernel)⟩
theorem lw_p33 : lw_okq (⟨"DuelSamplesModel", "goesEmpty", "()V"⟩, 23) := ⟨⟨by decide +kernel, by decide +kernel⟩, List.mem_of_getElem? (i := 691) (by decide +kernel), List.mem_of_getElem? (i := 811) (by decide +kernel), List.mem_of_getElem? (i := 812) (by decide +kernel)⟩
theorem lw_p34 : lw_okq (⟨"DuelSamplesModel", "sumOf", "(I)I"⟩, 23) := ⟨⟨by decide +kernel, by decide +kernel⟩, List.mem_of_getElem? (i := 691) (by decide +kernel), List.mem_of_getElem? (i := 847) (by decide +kernel), List.mem_of_getElem? (i := 848) (by decide +kernel)⟩
theorem lw_p35 : lw_okq (⟨"DuelSamplesModel", "opens", "()I"⟩, 23) := ⟨⟨by decide +kernel, by decide +kernel⟩, List.mem_of_getElem? (i := 691) (by decide +kernel), List.mem_of_getElem? (i := 851) (by decide +kernel), List.mem_of_getElem? (i := 852) (by decide +kernel)⟩
theorem lw_p36 : lw_okq (⟨"DuelSamplesModel", "walks", "(I)I"⟩, 23) := ⟨⟨by decide +kernel, by decide +kernel⟩, List.mem_of_getElem? (i := 691) (by decide +kernel), List.mem_of_getElem? (i := 867) (by decide +kernel), List.mem_of_getElem? (i := 868) (by decide +kernel)⟩
theorem lw_p37 : lw_okq (⟨"DuelSamplesModel", "walked", "(I)I"⟩, 23) := ⟨⟨by decide +kernel, by decide +kernel⟩, List.mem_of_getElem? (i := 691) (by decide +kernel), List.mem_of_getElem? (i := 871) (by decide +kernel), List.mem_of_getElem? (i := 872) (by decide +kernel)⟩
theorem lw_p38 : lw_okq (⟨"DuelSamplesModel", "begins", "()V"⟩, 23) := ⟨⟨by decide +kernel, by decide +kernel⟩, List.mem_of_getElem? (i := 691) (by decide +kernel), List.mem_of_getElem? (i := 875) (by decide +kernel), List.mem_of_getElem? (i := 876) (by decide +kernel)⟩
theorem lw_p39 : lw_okq (⟨"DuelSamplesModel", "finds", "()Z"⟩, 23) := ⟨⟨by decide +kernel, by decide +kernel⟩, List.mem_of_getElem? (i := 691) (by decide +kernel), List.mem_of_getElem? (i := 879) (by decide +kernel), List.mem_of_getElem? (i := 880) (by decide +kernel)⟩
theorem lw_p40 : lw_okq (⟨"DuelSamplesModel", "firstOpen", "(I)I"⟩, 23) := ⟨⟨by decide +kernel, by decide +kernel⟩, List.mem_of_getElem? (i := 691) (by decide +kernel), List.mem_of_getElem? (i := 883) (by decide +kernel), List.mem_of_getElem? (i := 884) (by decide +kernel)⟩
theorem lw_p41 : lw_okq (⟨"DuelSamplesModel", "isOpen", "(I)Z"⟩, 23) := ⟨⟨by decide +kernel, by decide +kernel⟩, List.mem_of_getElem? (i := 691) (by decide +kernel), List.mem_of_getElem? (i := 887) (by decide +kernel), List.mem_of_getElem? (i := 888) (by decide +kernel)⟩
theorem lw_p42 : lw_okq (⟨"DuelSamplesModel", "bestOf", "(II)I"⟩, 23) := ⟨⟨by decide +kernel, by decide +kernel⟩, List.mem_of_getElem? (i := 691) (by decide +kernel), List.mem_of_getElem? (i := 891) (by decide +kernel), List.mem_of_getElem? (i := 892) (by decide +kernel)⟩
theorem lw_p43 : lw_okq (⟨"DuelSamplesModel", "nextIn", "(II)I"⟩, 23) := ⟨⟨by decide +kernel, by decide +kernel⟩, List.mem_of_getElem? (i := 691) (by decide +kernel), List.mem_of_getElem? (i := 898) (by decide +kernel), List.mem_of_getElem? (i := 899) (by decide +kernel)⟩
theorem lw_p44 : lw_okq (⟨"DuelSamplesModel", "sizeOfPlay", "()I"⟩, 23) := ⟨⟨by decide +kernel, by decide +kernel⟩, List.mem_of_getElem? (i := 691) (by decide +kernel), List.mem_of_getElem? (i := 902) (by decide +kernel), List.mem_of_getElem? (i := 903) (by decide +kernel)⟩
theorem lw_p45 : lw_okq (⟨"DuelSamplesModel", "chancesOfOne", "()I"⟩, 23) := ⟨⟨by decide +kernel, by decide +kernel⟩, List.mem_of_getElem? (i := 691) (by decide +kernel), List.mem_of_getElem? (i := 906) (by decide +kernel), List.mem_of_getElem? (i := 907) (by decide +kernel)⟩
theorem lw_p46 : lw_okq (⟨"DuelSamplesModel", "gets", "(Z)V"⟩, 23) := ⟨⟨by decide +kernel, by decide +kernel⟩, List.mem_of_getElem? (i := 691) (by decide +kernel), List.mem_of_getElem? (i := 910) (by decide +kernel), List.mem_of_getElem? (i := 911) (by decide +kernel)⟩
theorem lw_p47 : lw_okq (⟨"DuelSamplesModel", "sampleNow", "()I"⟩, 23) := ⟨⟨by decide +kernel, by decide +kernel⟩, List.mem_of_getElem? (i := 691) (by decide +kernel), List.mem_of_getElem? (i := 914) (by decide +kernel), List.mem_of_getElem? (i := 915) (by decide +kernel)⟩
def lw_privs_3 : List (MethodName × Nat) := [(⟨"DuelSamplesModel", "at", "(II)I"⟩, 23), (⟨"DuelSamplesModel", "goesEmpty", "()V"⟩, 23), (⟨"DuelSamplesModel", "sumOf", "(I)I"⟩, 23), (⟨"DuelSamplesModel", "opens", "()I"⟩, 23), (⟨"DuelSamplesModel", "walks", "(I)I"⟩, 23), (⟨"DuelSamplesModel", "walked", "(I)I"⟩, 23), (⟨"DuelSamplesModel", "begins", "()V"⟩, 23), (⟨"DuelSamplesModel", "finds", "()Z"⟩, 23), (⟨"DuelSamplesModel", "firstOpen", "(I)I"⟩, 23), (⟨"DuelSamplesModel", "isOpen", "(I)Z"⟩, 23), (⟨"DuelSamplesModel", "bestOf", "(II)I"⟩, 23), (⟨"DuelSamplesModel", "nextIn", "(II)I"⟩, 23), (⟨"DuelSamplesModel", "sizeOfPlay", "()I"⟩, 23), (⟨"DuelSamplesModel", "chancesOfOne", "()I"⟩, 23), (⟨"DuelSamplesModel", "gets", "(Z)V"⟩, 23), (⟨"DuelSamplesModel", "sampleNow", "()I"⟩, 23)]
theorem lw_r3 : ∀ q ∈ lw_privs_3, lw_okq q := List.forall_mem_cons.mpr ⟨lw_p32, List.forall_mem_cons.mpr ⟨lw_p33, List.forall_mem_cons.mpr ⟨lw_p34, List.forall_mem_cons.mpr ⟨lw_p35, List.forall_mem_cons.mpr ⟨lw_p36, List.forall_mem_cons.mpr ⟨lw_p37, List.forall_mem_cons.mpr ⟨lw_p38, List.forall_mem_cons.mpr ⟨lw_p39, List.forall_mem_cons.mpr ⟨lw_p40, List.forall_mem_cons.mpr ⟨lw_p41, List.forall_mem_cons.mpr ⟨lw_p42, List.forall_mem_cons.mpr ⟨lw_p43, List.forall_mem_cons.mpr ⟨lw_p44, List.forall_mem_cons.mpr ⟨lw_p45, List.forall_mem_cons.mpr ⟨lw_p46, List.forall_mem_cons.mpr ⟨lw_p47, fun _ h => absurd h List.not_mem_nil⟩⟩⟩⟩⟩⟩⟩⟩⟩⟩⟩⟩⟩⟩⟩⟩
theorem lw_p48 : lw_okq (⟨"DuelSamplesModel", "wasOf", "(I)I"⟩, 23) := ⟨⟨by decide +kernel, by decide +kernel⟩, List.mem_of_getElem? (i := 691) (by decide +kernel), List.mem_of_getElem? (i := 925) (by decide +kernel), List.mem_of_getElem? (i := 926) (by decide +kernel)⟩
theorem lw_p49 : lw_okq (⟨"DuelSamplesModel", "countedUp", "(II)J"⟩, 23) := ⟨⟨by decide +kernel, by decide +kernel⟩, List.mem_of_getElem? (i := 691) (by decide +kernel), List.mem_of_getElem? (i := 938) (by decide +kernel), List.mem_of_getElem? (i := 939) (by decide +kernel)⟩
theorem lw_p50 : lw_okq (⟨"DuelSamplesModel", "missOf", "(I)J"⟩, 23) := ⟨⟨by decide +kernel, by decide +kernel⟩, List.mem_of_getElem? (i := 691) (by decide +kernel), List.mem_of_getElem? (i := 943) (by decide +kernel), List.mem_of_getElem? (i := 944) (by decide +kernel)⟩
theorem lw_p51 : lw_okq (⟨"DuelSamplesModel", "howOften", "(III)I"⟩, 23) := ⟨⟨by decide +kernel, by decide +kernel⟩, List.mem_of_getElem? (i := 691) (by decide +kernel), List.mem_of_getElem? (i := 965) (by decide +kernel), List.mem_of_getElem? (i := 966) (by decide +kernel)⟩
theorem lw_p52 : lw_okq (⟨"DuelSamplesModel", "layCan", "()V"⟩, 23) := ⟨⟨by decide +kernel, by decide +kernel⟩, List.mem_of_getElem? (i := 691) (by decide +kernel), List.mem_of_getElem? (i := 981) (by decide +kernel), List.mem_of_getElem? (i := 982) (by decide +kernel)⟩
theorem lw_p53 : lw_okq (⟨"DuelSamplesModel", "goesThrough", "(Z)I"⟩, 23) := ⟨⟨by decide +kernel, by decide +kernel⟩, List.mem_of_getElem? (i := 691) (by decide +kernel), List.mem_of_getElem? (i := 1011) (by decide +kernel), List.mem_of_getElem? (i := 1012) (by decide +kernel)⟩
theorem lw_p54 : lw_okq (⟨"DuelSamplesModel", "skip", "()V"⟩, 23) := ⟨⟨by decide +kernel, by decide +kernel⟩, List.mem_of_getElem? (i := 691) (by decide +kernel), List.mem_of_getElem? (i := 1015) (by decide +kernel), List.mem_of_getElem? (i := 1016) (by decide +kernel)⟩
theorem lw_p55 : lw_okq (⟨"DuelSamplesModel", "reads", "(I)I"⟩, 23) := ⟨⟨by decide +kernel, by decide +kernel⟩, List.mem_of_getElem? (i := 691) (by decide +kernel), List.mem_of_getElem? (i := 1019) (by decide +kernel), List.mem_of_getElem? (i := 1020) (by decide +kernel)⟩
theorem lw_p56 : lw_okq (⟨"DuelSamplesModel", "takesWord", "()I"⟩, 23) := ⟨⟨by decide +kernel, by decide +kernel⟩, List.mem_of_getElem? (i := 691) (by decide +kernel), List.mem_of_getElem? (i := 1023) (by decide +kernel), List.mem_of_getElem? (i := 1024) (by decide +kernel)⟩
theorem lw_p57 : lw_okq (⟨"DuelSamplesModel", "isByte", "(III)Z"⟩, 23) := ⟨⟨by decide +kernel, by decide +kernel⟩, List.mem_of_getElem? (i := 691) (by decide +kernel), List.mem_of_getElem? (i := 1027) (by decide +kernel), List.mem_of_getElem? (i := 1028) (by decide +kernel)⟩
theorem lw_p58 : lw_okq (⟨"DuelSamplesModel", "argsOf", "(I)I"⟩, 23) := ⟨⟨by decide +kernel, by decide +kernel⟩, List.mem_of_getElem? (i := 691) (by decide +kernel), List.mem_of_getElem? (i := 1042) (by decide +kernel), List.mem_of_getElem? (i := 1043) (by decide +kernel)⟩
theorem lw_p59 : lw_okq (⟨"DuelSamplesModel", "mostAt", "(III)I"⟩, 23) := ⟨⟨by decide +kernel, by decide +kernel⟩, List.mem_of_getElem? (i := 691) (by decide +kernel), List.mem_of_getElem? (i := 1046) (by decide +kernel), List.mem_of_getElem? (i := 1047) (by decide +kernel)⟩
theorem lw_p60 : lw_okq (⟨"DuelSamplesModel", "takesNumber", "(II)I"⟩, 23) := ⟨⟨by decide +kernel, by decide +kernel⟩, List.mem_of_getElem? (i := 691) (by decide +kernel), List.mem_of_getElem? (i := 1051) (by decide +kernel), List.mem_of_getElem? (i := 1052) (by decide +kernel)⟩
theorem lw_p61 : lw_okq (⟨"DuelSamplesModel", "tells", "(I)V"⟩, 23) := ⟨⟨by decide +kernel, by decide +kernel⟩, List.mem_of_getElem? (i := 691) (by decide +kernel), List.mem_of_getElem? (i := 1055) (by decide +kernel), List.mem_of_getElem? (i := 1056) (by decide +kernel)⟩
theorem lw_p62 : lw_okq (⟨"DuelSamplesModel", "does", "(I)V"⟩, 23) := ⟨⟨by decide +kernel, by decide +kernel⟩, List.mem_of_getElem? (i := 691) (by decide +kernel), List.mem_of_getElem? (i := 1059) (by decide +kernel), List.mem_of_getElem? (i := 1060) (by decide +kernel)⟩
theorem lw_p63 : lw_okq (⟨"DuelSamplesModel", "tellsWord", "(I)V"⟩, 23) := ⟨⟨by decide +kernel, by decide +kernel⟩, List.mem_of_getElem? (i := 691) (by decide +kernel), List.mem_of_getElem? (i := 1063) (by decide +kernel), List.mem_of_getElem? (i := 1064) (by decide +kernel)⟩
def lw_privs_4 : List (MethodName × Nat) := [(⟨"DuelSamplesModel", "wasOf", "(I)I"⟩, 23), (⟨"DuelSamplesModel", "countedUp", "(II)J"⟩, 23), (⟨"DuelSamplesModel", "missOf", "(I)J"⟩, 23), (⟨"DuelSamplesModel", "howOften", "(III)I"⟩, 23), (⟨"DuelSamplesModel", "layCan", "()V"⟩, 23), (⟨"DuelSamplesModel", "goesThrough", "(Z)I"⟩, 23), (⟨"DuelSamplesModel", "skip", "()V"⟩, 23), (⟨"DuelSamplesModel", "reads", "(I)I"⟩, 23), (⟨"DuelSamplesModel", "takesWord", "()I"⟩, 23), (⟨"DuelSamplesModel", "isByte", "(III)Z"⟩, 23), (⟨"DuelSamplesModel", "argsOf", "(I)I"⟩, 23), (⟨"DuelSamplesModel", "mostAt", "(III)I"⟩, 23), (⟨"DuelSamplesModel", "takesNumber", "(II)I"⟩, 23), (⟨"DuelSamplesModel", "tells", "(I)V"⟩, 23), (⟨"DuelSamplesModel", "does", "(I)V"⟩, 23), (⟨"DuelSamplesModel", "tellsWord", "(I)V"⟩, 23)]
theorem lw_r4 : ∀ q ∈ lw_privs_4, lw_okq q := List.forall_mem_cons.mpr ⟨lw_p48, List.forall_mem_cons.mpr ⟨lw_p49, List.forall_mem_cons.mpr ⟨lw_p50, List.forall_mem_cons.mpr ⟨lw_p51, List.forall_mem_cons.mpr ⟨lw_p52, List.forall_mem_cons.mpr ⟨lw_p53, List.forall_mem_cons.mpr ⟨lw_p54, List.forall_mem_cons.mpr ⟨lw_p55, List.forall_mem_cons.mpr ⟨lw_p56, List.forall_mem_cons.mpr ⟨lw_p57, List.forall_mem_cons.mpr ⟨lw_p58, List.forall_mem_cons.mpr ⟨lw_p59, List.forall_mem_cons.mpr ⟨lw_p60, List.forall_mem_cons.mpr ⟨lw_p61, List.forall_mem_cons.mpr ⟨lw_p62, List.forall_mem_cons.mpr ⟨lw_p63, fun _ h => absurd h List.not_mem_nil⟩⟩⟩⟩⟩⟩⟩⟩⟩⟩⟩⟩⟩⟩⟩⟩
theorem lw_p64 : lw_okq (⟨"DuelSamplesModel", "tellsNumber", "(I)V"⟩, 23) := ⟨⟨by decide +kernel, by decide +kernel⟩, List.mem_of_getElem? (i := 691) (by decide +kernel), List.mem_of_getElem? (i := 1067) (by decide +kernel), List.mem_of_getElem? (i := 1068) (by decide +kernel)⟩
theorem lw_p65 : lw_okq (⟨"DuelSamplesModel", "tellsSample", "()V"⟩, 23) := ⟨⟨by decide +kernel, by decide +kernel⟩, List.mem_of_getElem? (i := 691) (by decide +kernel), List.mem_of_getElem? (i := 1071) (by decide +kernel), List.mem_of_getElem? (i := 1072) (by decide +kernel)⟩
theorem lw_p66 : lw_okq (⟨"DuelSamplesModel", "toldOf", "(I)I"⟩, 23) := ⟨⟨by decide +kernel, by decide +kernel⟩, List.mem_of_getElem? (i := 691) (by decide +kernel), List.mem_of_getElem? (i := 1084) (by decide +kernel), List.mem_of_getElem? (i := 1085) (by decide +kernel)⟩
def lw_privs_5 : List (MethodName × Nat) := [(⟨"DuelSamplesModel", "tellsNumber", "(I)V"⟩, 23), (⟨"DuelSamplesModel", "tellsSample", "()V"⟩, 23), (⟨"DuelSamplesModel", "toldOf", "(I)I"⟩, 23)]
theorem lw_r5 : ∀ q ∈ lw_privs_5, lw_okq q := List.forall_mem_cons.mpr ⟨lw_p64, List.forall_mem_cons.mpr ⟨lw_p65, List.forall_mem_cons.mpr ⟨lw_p66, fun _ h => absurd h List.not_mem_nil⟩⟩⟩
def lw_privs : List (MethodName × Nat) := lw_privs_1 ++ (lw_privs_2 ++ (lw_privs_3 ++ (lw_privs_4 ++ (lw_privs_5))))
def lw_tbl : List Cond := k2_sels lw_privs ++ tables_1
theorem lw_privs_ok : ∀ q ∈ lw_privs, lw_okq q := by
  show ∀ q ∈ lw_privs_1 ++ (lw_privs_2 ++ (lw_privs_3 ++ (lw_privs_4 ++ (lw_privs_5)))), lw_okq q
  exact List.forall_mem_append.mpr ⟨lw_r1, List.forall_mem_append.mpr ⟨lw_r2, List.forall_mem_append.mpr ⟨lw_r3, List.forall_mem_append.mpr ⟨lw_r4, lw_r5⟩⟩⟩⟩
end
section
def RX0 : String := "DuelSamples$Course"
def TX0 : u_T := fun k => match k with
  | 0 => ("DuelSamples$Course", "left", "[I", true)
  | 1 => ("DuelSamples$Course", "firsts", "[I", true)
  | 2 => ("DuelSamples$Course", "seconds", "[I", true)
  | 3 => ("DuelSamples$Course", "winners", "[I", true)
  | 4 => ("DuelSamples$Course", "sample", "I", false)
  | 5 => ("DuelSamples$Course", "plays", "I", false)
  | 6 => ("DuelSamples$Course", "small", "I", false)
  | 7 => ("DuelSamples$Course", "large", "I", false)
  | 8 => ("DuelSamples$Course", "u", "I", false)
  | _ => ("DuelSamples$Course", "v", "I", false)
def tyX0 : Nat → FieldType := fun k => match k with
  | 0 => .array .int
  | 1 => .array .int
  | 2 => .array .int
  | 3 => .array .int
  | 4 => .int
  | 5 => .int
  | 6 => .int
  | 7 => .int
  | 8 => .int
  | _ => .int
abbrev wsX00 : List Cond := u_ws RX0 TX0 10
theorem nmX0 : ∀ a, a < 10 → ∀ b, b < 10 → a ≠ b → (TX0 a).2.1 ≠ (TX0 b).2.1 := by decide +kernel
theorem tyX0_ok : ∀ k, k < 10 → parseFieldDescriptor (TX0 k).2.2.1 = some (tyX0 k) := by decide +kernel
abbrev cX0_init : ByteArray := prog_2_method_1_code
def yX0_init : MethodName := ⟨RX0, "<init>", "()V"⟩
abbrev cX0_run : ByteArray := prog_2_method_2_code
def yX0_run : MethodName := ⟨RX0, "run", "(LDuelSamples$Roster;II)V"⟩
abbrev cX0_forget : ByteArray := prog_2_method_3_code
def yX0_forget : MethodName := ⟨RX0, "forget", "()V"⟩
abbrev cX0_begin : ByteArray := prog_2_method_4_code
def yX0_begin : MethodName := ⟨RX0, "begin", "(LDuelSamples$Roster;)V"⟩
abbrev cX0_holds : ByteArray := prog_2_method_5_code
def yX0_holds : MethodName := ⟨RX0, "holds", "(I)Z"⟩
abbrev cX0_tally : ByteArray := prog_2_method_6_code
def yX0_tally : MethodName := ⟨RX0, "tally", "(I)I"⟩
abbrev cX0_recorded : ByteArray := prog_2_method_7_code
def yX0_recorded : MethodName := ⟨RX0, "recorded", "(II)I"⟩
abbrev cX0_leftOf : ByteArray := prog_2_method_8_code
def yX0_leftOf : MethodName := ⟨RX0, "leftOf", "(I)I"⟩
abbrev cX0_leave : ByteArray := prog_2_method_9_code
def yX0_leave : MethodName := ⟨RX0, "leave", "(II)V"⟩
abbrev cX0_isOpen : ByteArray := prog_2_method_10_code
def yX0_isOpen : MethodName := ⟨RX0, "isOpen", "(I)Z"⟩
abbrev cX0_openFrom : ByteArray := prog_2_method_11_code
def yX0_openFrom : MethodName := ⟨RX0, "openFrom", "(I)I"⟩
abbrev cX0_pick : ByteArray := prog_2_method_12_code
def yX0_pick : MethodName := ⟨RX0, "pick", "(LDuelSamples$Roster;I)Z"⟩
abbrev cX0_byDistance : ByteArray := prog_2_method_13_code
def yX0_byDistance : MethodName := ⟨RX0, "byDistance", "(LDuelSamples$Roster;I)I"⟩
abbrev cX0_pickOfStratum : ByteArray := prog_2_method_14_code
def yX0_pickOfStratum : MethodName := ⟨RX0, "pickOfStratum", "(LDuelSamples$Roster;)V"⟩
abbrev cX0_openOfStratum : ByteArray := prog_2_method_15_code
def yX0_openOfStratum : MethodName := ⟨RX0, "openOfStratum", "(LDuelSamples$Roster;II)I"⟩
abbrev cX0_pickByChance : ByteArray := prog_2_method_16_code
def yX0_pickByChance : MethodName := ⟨RX0, "pickByChance", "()V"⟩
abbrev cX0_mostLeftBut : ByteArray := prog_2_method_17_code
def yX0_mostLeftBut : MethodName := ⟨RX0, "mostLeftBut", "(I)I"⟩
abbrev cX0_leftOfBoth : ByteArray := prog_2_method_18_code
def yX0_leftOfBoth : MethodName := ⟨RX0, "leftOfBoth", "()I"⟩
abbrev cX0_chancesOfBoth : ByteArray := prog_2_method_19_code
def yX0_chancesOfBoth : MethodName := ⟨RX0, "chancesOfBoth", "()I"⟩
abbrev cX0_chancesOfFirst : ByteArray := prog_2_method_20_code
def yX0_chancesOfFirst : MethodName := ⟨RX0, "chancesOfFirst", "()I"⟩
abbrev cX0_write : ByteArray := prog_2_method_21_code
def yX0_write : MethodName := ⟨RX0, "write", "(Z)V"⟩
abbrev cX0_settle : ByteArray := prog_2_method_22_code
def yX0_settle : MethodName := ⟨RX0, "settle", "(Z)V"⟩
abbrev cX0_restore : ByteArray := prog_2_method_23_code
def yX0_restore : MethodName := ⟨RX0, "restore", "(IIII)V"⟩
abbrev cX0_wholeOnes : ByteArray := prog_2_method_24_code
def yX0_wholeOnes : MethodName := ⟨RX0, "wholeOnes", "()I"⟩
def RX1 : String := "DuelSamples$Reach"
def TX1 : u_T := fun k => match k with
  | 0 => ("DuelSamples$Reach", "seen", "[J", true)
  | 1 => ("DuelSamples$Reach", "atChanges", "I", false)
  | _ => ("DuelSamples$Reach", "atMethod", "I", false)
def tyX1 : Nat → FieldType := fun k => match k with
  | 0 => .array .long
  | 1 => .int
  | _ => .int
abbrev wsX10 : List Cond := u_ws RX1 TX1 3
theorem nmX1 : ∀ a, a < 3 → ∀ b, b < 3 → a ≠ b → (TX1 a).2.1 ≠ (TX1 b).2.1 := by decide +kernel
theorem tyX1_ok : ∀ k, k < 3 → parseFieldDescriptor (TX1 k).2.2.1 = some (tyX1 k) := by decide +kernel
abbrev cX1_init : ByteArray := prog_3_method_1_code
def yX1_init : MethodName := ⟨RX1, "<init>", "()V"⟩
abbrev cX1_explore : ByteArray := prog_3_method_2_code
def yX1_explore : MethodName := ⟨RX1, "explore", "(LDuelSamples$Roster;ILDuelSamples$Course;)V"⟩
abbrev cX1_follow : ByteArray := prog_3_method_3_code
def yX1_follow : MethodName := ⟨RX1, "follow", "(LDuelSamples$Reach;LDuelSamples$Course;LDuelSamples$Roster;II)V"⟩
abbrev cX1_mark : ByteArray := prog_3_method_4_code
def yX1_mark : MethodName := ⟨RX1, "mark", "(I)V"⟩
abbrev cX1_isSeen : ByteArray := prog_3_method_5_code
def yX1_isSeen : MethodName := ⟨RX1, "isSeen", "(I)Z"⟩
abbrev cX1_howMany : ByteArray := prog_3_method_6_code
def yX1_howMany : MethodName := ⟨RX1, "howMany", "()I"⟩
abbrev cX1_fewestUnits : ByteArray := prog_3_method_7_code
def yX1_fewestUnits : MethodName := ⟨RX1, "fewestUnits", "()I"⟩
abbrev cX1_mostUnits : ByteArray := prog_3_method_8_code
def yX1_mostUnits : MethodName := ⟨RX1, "mostUnits", "()I"⟩
abbrev cX1_hasWith : ByteArray := prog_3_method_9_code
def yX1_hasWith : MethodName := ⟨RX1, "hasWith", "(I)Z"⟩
abbrev cX1_leastMiss : ByteArray := prog_3_method_10_code
def yX1_leastMiss : MethodName := ⟨RX1, "leastMiss", "(LDuelSamples$Roster;)J"⟩
def RX2 : String := "DuelSamples$Reply"
def TX2 : u_T := fun k => match k with
  | 0 => ("DuelSamples$Reply", "signs", "[B", true)
  | _ => ("DuelSamples$Reply", "length", "I", false)
def tyX2 : Nat → FieldType := fun k => match k with
  | 0 => .array .byte
  | _ => .int
abbrev wsX20 : List Cond := u_ws RX2 TX2 2
theorem nmX2 : ∀ a, a < 2 → ∀ b, b < 2 → a ≠ b → (TX2 a).2.1 ≠ (TX2 b).2.1 := by decide +kernel
theorem tyX2_ok : ∀ k, k < 2 → parseFieldDescriptor (TX2 k).2.2.1 = some (tyX2 k) := by decide +kernel
abbrev cX2_init : ByteArray := prog_4_method_1_code
def yX2_init : MethodName := ⟨RX2, "<init>", "()V"⟩
abbrev cX2_sign : ByteArray := prog_4_method_2_code
def yX2_sign : MethodName := ⟨RX2, "sign", "(I)I"⟩
abbrev cX2_put : ByteArray := prog_4_method_3_code
def yX2_put : MethodName := ⟨RX2, "put", "(I)V"⟩
abbrev cX2_putWord : ByteArray := prog_4_method_4_code
def yX2_putWord : MethodName := ⟨RX2, "putWord", "(Ljava/lang/String;)V"⟩
abbrev cX2_putNumber : ByteArray := prog_4_method_5_code
def yX2_putNumber : MethodName := ⟨RX2, "putNumber", "(I)V"⟩
abbrev cX2_putUnits : ByteArray := prog_4_method_6_code
def yX2_putUnits : MethodName := ⟨RX2, "putUnits", "(I)V"⟩
def RX3 : String := "DuelSamples$Roster"
def TX3 : u_T := fun k => match k with
  | 0 => ("DuelSamples$Roster", "facts", "[[I", true)
  | 1 => ("DuelSamples$Roster", "count", "I", false)
  | _ => ("DuelSamples$Roster", "changes", "I", false)
def tyX3 : Nat → FieldType := fun k => match k with
  | 0 => .array (.array .int)
  | 1 => .int
  | _ => .int
abbrev wsX30 : List Cond := u_ws RX3 TX3 3
theorem nmX3 : ∀ a, a < 3 → ∀ b, b < 3 → a ≠ b → (TX3 a).2.1 ≠ (TX3 b).2.1 := by decide +kernel
theorem tyX3_ok : ∀ k, k < 3 → parseFieldDescriptor (TX3 k).2.2.1 = some (tyX3 k) := by decide +kernel
abbrev cX3_init : ByteArray := prog_5_method_1_code
def yX3_init : MethodName := ⟨RX3, "<init>", "()V"⟩
abbrev cX3_fits : ByteArray := prog_5_method_2_code
def yX3_fits : MethodName := ⟨RX3, "fits", "(II)Z"⟩
abbrev cX3_has : ByteArray := prog_5_method_3_code
def yX3_has : MethodName := ⟨RX3, "has", "(I)Z"⟩
abbrev cX3_fact : ByteArray := prog_5_method_4_code
def yX3_fact : MethodName := ⟨RX3, "fact", "(II)I"⟩
abbrev cX3_change : ByteArray := prog_5_method_5_code
def yX3_change : MethodName := ⟨RX3, "change", "(III)I"⟩
abbrev cX3_append : ByteArray := prog_5_method_6_code
def yX3_append : MethodName := ⟨RX3, "append", "(IIIII)I"⟩
abbrev cX3_removeAll : ByteArray := prog_5_method_7_code
def yX3_removeAll : MethodName := ⟨RX3, "removeAll", "()V"⟩
abbrev cX3_distance : ByteArray := prog_5_method_8_code
def yX3_distance : MethodName := ⟨RX3, "distance", "(II)I"⟩
abbrev cX3_sum : ByteArray := prog_5_method_9_code
def yX3_sum : MethodName := ⟨RX3, "sum", "(I)I"⟩
abbrev cX3_openAtFirst : ByteArray := prog_5_method_10_code
def yX3_openAtFirst : MethodName := ⟨RX3, "openAtFirst", "()I"⟩
abbrev cX3_countUp : ByteArray := prog_5_method_11_code
def yX3_countUp : MethodName := ⟨RX3, "countUp", "(II)J"⟩
abbrev cX3_miss : ByteArray := prog_5_method_12_code
def yX3_miss : MethodName := ⟨RX3, "miss", "(I)J"⟩
def RX4 : String := "DuelSamples$Script"
def TX4 : u_T := fun k => match k with
  | 0 => ("DuelSamples$Script", "text", "[B", true)
  | 1 => ("DuelSamples$Script", "verbs", "[I", true)
  | 2 => ("DuelSamples$Script", "numbers", "[I", true)
  | 3 => ("DuelSamples$Script", "length", "I", false)
  | 4 => ("DuelSamples$Script", "sentences", "I", false)
  | 5 => ("DuelSamples$Script", "at", "I", false)
  | _ => ("DuelSamples$Script", "units", "I", false)
def tyX4 : Nat → FieldType := fun k => match k with
  | 0 => .array .byte
  | 1 => .array .int
  | 2 => .array .int
  | 3 => .int
  | 4 => .int
  | 5 => .int
  | _ => .int
abbrev wsX40 : List Cond := u_ws RX4 TX4 7
theorem nmX4 : ∀ a, a < 7 → ∀ b, b < 7 → a ≠ b → (TX4 a).2.1 ≠ (TX4 b).2.1 := by decide +kernel
theorem tyX4_ok : ∀ k, k < 7 → parseFieldDescriptor (TX4 k).2.2.1 = some (tyX4 k) := by decide +kernel
abbrev cX4_init : ByteArray := prog_6_method_1_code
def yX4_init : MethodName := ⟨RX4, "<init>", "()V"⟩
abbrev cX4_word : ByteArray := prog_6_method_2_code
def yX4_word : MethodName := ⟨RX4, "word", "(I)Ljava/lang/String;"⟩
abbrev cX4_numbersBehind : ByteArray := prog_6_method_3_code
def yX4_numbersBehind : MethodName := ⟨RX4, "numbersBehind", "(I)I"⟩
abbrev cX4_append : ByteArray := prog_6_method_4_code
def yX4_append : MethodName := ⟨RX4, "append", "(I)I"⟩
abbrev cX4_verb : ByteArray := prog_6_method_5_code
def yX4_verb : MethodName := ⟨RX4, "verb", "(I)I"⟩
abbrev cX4_number : ByteArray := prog_6_method_6_code
def yX4_number : MethodName := ⟨RX4, "number", "(II)I"⟩
abbrev cX4_read : ByteArray := prog_6_method_7_code
def yX4_read : MethodName := ⟨RX4, "read", "(I)I"⟩
abbrev cX4_readSentence : ByteArray := prog_6_method_8_code
def yX4_readSentence : MethodName := ⟨RX4, "readSentence", "()I"⟩
abbrev cX4_mayStand : ByteArray := prog_6_method_9_code
def yX4_mayStand : MethodName := ⟨RX4, "mayStand", "(III)Z"⟩
abbrev cX4_byteAt : ByteArray := prog_6_method_10_code
def yX4_byteAt : MethodName := ⟨RX4, "byteAt", "(I)I"⟩
abbrev cX4_skipBlanks : ByteArray := prog_6_method_11_code
def yX4_skipBlanks : MethodName := ⟨RX4, "skipBlanks", "()V"⟩
abbrev cX4_readWord : ByteArray := prog_6_method_12_code
def yX4_readWord : MethodName := ⟨RX4, "readWord", "()I"⟩
abbrev cX4_stands : ByteArray := prog_6_method_13_code
def yX4_stands : MethodName := ⟨RX4, "stands", "(Ljava/lang/String;II)Z"⟩
abbrev cX4_readNumber : ByteArray := prog_6_method_14_code
def yX4_readNumber : MethodName := ⟨RX4, "readNumber", "(I)I"⟩
def RX5 : String := "DuelSamples"
def TX5 : u_T := fun k => match k with
  | 0 => ("DuelSamples", "roster", "LDuelSamples$Roster;", true)
  | 1 => ("DuelSamples", "last", "LDuelSamples$Course;", true)
  | 2 => ("DuelSamples", "trial", "LDuelSamples$Course;", true)
  | 3 => ("DuelSamples", "reach", "LDuelSamples$Reach;", true)
  | 4 => ("DuelSamples", "script", "LDuelSamples$Script;", true)
  | 5 => ("DuelSamples", "reply", "LDuelSamples$Reply;", true)
  | 6 => ("DuelSamples", "method", "I", false)
  | 7 => ("DuelSamples", "refusedBad", "I", false)
  | _ => ("DuelSamples", "refusedFull", "I", false)
def tyX5 : Nat → FieldType := fun k => match k with
  | 0 => .object "DuelSamples$Roster"
  | 1 => .object "DuelSamples$Course"
  | 2 => .object "DuelSamples$Course"
  | 3 => .object "DuelSamples$Reach"
  | 4 => .object "DuelSamples$Script"
  | 5 => .object "DuelSamples$Reply"
  | 6 => .int
  | 7 => .int
  | _ => .int
abbrev wsX50 : List Cond := u_ws RX5 TX5 9
theorem nmX5 : ∀ a, a < 9 → ∀ b, b < 9 → a ≠ b → (TX5 a).2.1 ≠ (TX5 b).2.1 := by decide +kernel
theorem tyX5_ok : ∀ k, k < 9 → parseFieldDescriptor (TX5 k).2.2.1 = some (tyX5 k) := by decide +kernel
abbrev cX5_init : ByteArray := prog_1_method_1_code
def yX5_init : MethodName := ⟨RX5, "<init>", "()V"⟩
abbrev cX5_unit : ByteArray := prog_1_method_2_code
def yX5_unit : MethodName := ⟨RX5, "unit", "(IIIII)I"⟩
abbrev cX5_sets : ByteArray := prog_1_method_3_code
def yX5_sets : MethodName := ⟨RX5, "sets", "(III)I"⟩
abbrev cX5_empties : ByteArray := prog_1_method_4_code
def yX5_empties : MethodName := ⟨RX5, "empties", "()I"⟩
abbrev cX5_draw : ByteArray := prog_1_method_5_code
def yX5_draw : MethodName := ⟨RX5, "draw", "(II)I"⟩
abbrev cX5_of : ByteArray := prog_1_method_6_code
def yX5_of : MethodName := ⟨RX5, "of", "(II)I"⟩
abbrev cX5_all : ByteArray := prog_1_method_7_code
def yX5_all : MethodName := ⟨RX5, "all", "(I)I"⟩
abbrev cX5_method : ByteArray := prog_1_method_8_code
def yX5_method : MethodName := ⟨RX5, "method", "(I)I"⟩
abbrev cX5_walk : ByteArray := prog_1_method_9_code
def yX5_walk : MethodName := ⟨RX5, "walk", "(I)I"⟩
abbrev cX5_was : ByteArray := prog_1_method_10_code
def yX5_was : MethodName := ⟨RX5, "was", "(I)I"⟩
abbrev cX5_play : ByteArray := prog_1_method_11_code
def yX5_play : MethodName := ⟨RX5, "play", "(II)I"⟩
abbrev cX5_counted : ByteArray := prog_1_method_12_code
def yX5_counted : MethodName := ⟨RX5, "counted", "(I)J"⟩
abbrev cX5_inside : ByteArray := prog_1_method_13_code
def yX5_inside : MethodName := ⟨RX5, "inside", "(I)I"⟩
abbrev cX5_spread : ByteArray := prog_1_method_14_code
def yX5_spread : MethodName := ⟨RX5, "spread", "()I"⟩
abbrev cX5_often : ByteArray := prog_1_method_15_code
def yX5_often : MethodName := ⟨RX5, "often", "(III)I"⟩
abbrev cX5_both : ByteArray := prog_1_method_16_code
def yX5_both : MethodName := ⟨RX5, "both", "(IIII)I"⟩
abbrev cX5_best : ByteArray := prog_1_method_17_code
def yX5_best : MethodName := ⟨RX5, "best", "(III)J"⟩
abbrev cX5_many : ByteArray := prog_1_method_18_code
def yX5_many : MethodName := ⟨RX5, "many", "()I"⟩
abbrev cX5_sizes : ByteArray := prog_1_method_19_code
def yX5_sizes : MethodName := ⟨RX5, "sizes", "(I)I"⟩
abbrev cX5_can : ByteArray := prog_1_method_20_code
def yX5_can : MethodName := ⟨RX5, "can", "(II)I"⟩
abbrev cX5_least : ByteArray := prog_1_method_21_code
def yX5_least : MethodName := ⟨RX5, "least", "()J"⟩
abbrev cX5_type : ByteArray := prog_1_method_22_code
def yX5_type : MethodName := ⟨RX5, "type", "(I)I"⟩
abbrev cX5_clear : ByteArray := prog_1_method_23_code
def yX5_clear : MethodName := ⟨RX5, "clear", "()I"⟩
abbrev cX5_says : ByteArray := prog_1_method_24_code
def yX5_says : MethodName := ⟨RX5, "says", "()I"⟩
abbrev cX5_answer : ByteArray := prog_1_method_25_code
def yX5_answer : MethodName := ⟨RX5, "answer", "(I)I"⟩
abbrev cX5_told : ByteArray := prog_1_method_26_code
def yX5_told : MethodName := ⟨RX5, "told", "(I)I"⟩
abbrev cX5_digest : ByteArray := prog_1_method_27_code
def yX5_digest : MethodName := ⟨RX5, "digest", "()J"⟩
abbrev cX5_refuse : ByteArray := prog_1_method_28_code
def yX5_refuse : MethodName := ⟨RX5, "refuse", "(I)I"⟩
abbrev cX5_isSeed : ByteArray := prog_1_method_29_code
def yX5_isSeed : MethodName := ⟨RX5, "isSeed", "(I)Z"⟩
abbrev cX5_areSeeds : ByteArray := prog_1_method_30_code
def yX5_areSeeds : MethodName := ⟨RX5, "areSeeds", "(II)Z"⟩
abbrev cX5_nextX : ByteArray := prog_1_method_31_code
def yX5_nextX : MethodName := ⟨RX5, "nextX", "(J)J"⟩
abbrev cX5_knownOf : ByteArray := prog_1_method_32_code
def yX5_knownOf : MethodName := ⟨RX5, "knownOf", "(II)I"⟩
abbrev cX5_changeMethod : ByteArray := prog_1_method_33_code
def yX5_changeMethod : MethodName := ⟨RX5, "changeMethod", "(I)I"⟩
abbrev cX5_state : ByteArray := prog_1_method_34_code
def yX5_state : MethodName := ⟨RX5, "state", "(I)I"⟩
abbrev cX5_walksWith : ByteArray := prog_1_method_35_code
def yX5_walksWith : MethodName := ⟨RX5, "walksWith", "(III)I"⟩
abbrev cX5_perform : ByteArray := prog_1_method_36_code
def yX5_perform : MethodName := ⟨RX5, "perform", "(I)V"⟩
def RX6 : String := "DuelSamplesModel"
def TX6 : u_T := fun k => match k with
  | 0 => ("DuelSamplesModel", "units", "[I", true)
  | 1 => ("DuelSamplesModel", "unitsNow", "I", false)
  | 2 => ("DuelSamplesModel", "way", "I", false)
  | 3 => ("DuelSamplesModel", "sample", "I", false)
  | 4 => ("DuelSamplesModel", "refused", "[I", true)
  | 5 => ("DuelSamplesModel", "left", "[I", true)
  | 6 => ("DuelSamplesModel", "one", "I", false)
  | 7 => ("DuelSamplesModel", "two", "I", false)
  | 8 => ("DuelSamplesModel", "played", "[I", true)
  | 9 => ("DuelSamplesModel", "plays", "I", false)
  | 10 => ("DuelSamplesModel", "low", "I", false)
  | 11 => ("DuelSamplesModel", "high", "I", false)
  | 12 => ("DuelSamplesModel", "playedNow", "[I", true)
  | 13 => ("DuelSamplesModel", "playsNow", "I", false)
  | 14 => ("DuelSamplesModel", "lowNow", "I", false)
  | 15 => ("DuelSamplesModel", "highNow", "I", false)
  | 16 => ("DuelSamplesModel", "canBe", "[Z", true)
  | 17 => ("DuelSamplesModel", "text", "[I", true)
  | 18 => ("DuelSamplesModel", "textLong", "I", false)
  | 19 => ("DuelSamplesModel", "answered", "[I", true)
  | 20 => ("DuelSamplesModel", "answerLong", "I", false)
  | 21 => ("DuelSamplesModel", "place", "I", false)
  | _ => ("DuelSamplesModel", "numbers", "[I", true)
def tyX6 : Nat → FieldType := fun k => match k with
  | 0 => .array .int
  | 1 => .int
  | 2 => .int
  | 3 => .int
  | 4 => .array .int
  | 5 => .array .int
  | 6 => .int
  | 7 => .int
  | 8 => .array .int
  | 9 => .int
  | 10 => .int
  | 11 => .int
  | 12 => .array .int
  | 13 => .int
  | 14 => .int
  | 15 => .int
  | 16 => .array .boolean
  | 17 => .array .int
  | 18 => .int
  | 19 => .array .int
  | 20 => .int
  | 21 => .int
  | _ => .array .int
abbrev wsX60 : List Cond := u_ws RX6 TX6 23
theorem nmX6 : ∀ a, a < 23 → ∀ b, b < 23 → a ≠ b → (TX6 a).2.1 ≠ (TX6 b).2.1 := by decide +kernel
theorem tyX6_ok : ∀ k, k < 23 → parseFieldDescriptor (TX6 k).2.2.1 = some (tyX6 k) := by decide +kernel
abbrev cX6_init : ByteArray := prog_8_method_1_code
def yX6_init : MethodName := ⟨RX6, "<init>", "()V"⟩
abbrev cX6_in : ByteArray := prog_8_method_3_code
def yX6_in : MethodName := ⟨RX6, "in", "(JJJ)Z"⟩
abbrev cX6_bad : ByteArray := prog_8_method_4_code
def yX6_bad : MethodName := ⟨RX6, "bad", "(I)I"⟩
abbrev cX6_full : ByteArray := prog_8_method_5_code
def yX6_full : MethodName := ⟨RX6, "full", "()I"⟩
abbrev cX6_isUnit : ByteArray := prog_8_method_6_code
def yX6_isUnit : MethodName := ⟨RX6, "isUnit", "(I)Z"⟩
abbrev cX6_at : ByteArray := prog_8_method_7_code
def yX6_at : MethodName := ⟨RX6, "at", "(II)I"⟩
abbrev cX6_mostOf : ByteArray := prog_8_method_8_code
def yX6_mostOf : MethodName := ⟨RX6, "mostOf", "(I)I"⟩
abbrev cX6_has : ByteArray := prog_8_method_9_code
def yX6_has : MethodName := ⟨RX6, "has", "(II)Z"⟩
abbrev cX6_bits : ByteArray := prog_8_method_10_code
def yX6_bits : MethodName := ⟨RX6, "bits", "(I)I"⟩
abbrev cX6_lays : ByteArray := prog_8_method_11_code
def yX6_lays : MethodName := ⟨RX6, "lays", "(IIIII)V"⟩
abbrev cX6_unit : ByteArray := prog_8_method_12_code
def yX6_unit : MethodName := ⟨RX6, "unit", "(IIIII)I"⟩
abbrev cX6_becomes : ByteArray := prog_8_method_13_code
def yX6_becomes : MethodName := ⟨RX6, "becomes", "(III)I"⟩
abbrev cX6_sets : ByteArray := prog_8_method_14_code
def yX6_sets : MethodName := ⟨RX6, "sets", "(III)I"⟩
abbrev cX6_goesEmpty : ByteArray := prog_8_method_15_code
def yX6_goesEmpty : MethodName := ⟨RX6, "goesEmpty", "()V"⟩
abbrev cX6_empties : ByteArray := prog_8_method_16_code
def yX6_empties : MethodName := ⟨RX6, "empties", "()I"⟩
abbrev cX6_next : ByteArray := prog_8_method_17_code
def yX6_next : MethodName := ⟨RX6, "next", "(J)J"⟩
abbrev cX6_draw : ByteArray := prog_8_method_18_code
def yX6_draw : MethodName := ⟨RX6, "draw", "(II)I"⟩
abbrev cX6_of : ByteArray := prog_8_method_19_code
def yX6_of : MethodName := ⟨RX6, "of", "(II)I"⟩
abbrev cX6_sumOf : ByteArray := prog_8_method_20_code
def yX6_sumOf : MethodName := ⟨RX6, "sumOf", "(I)I"⟩
abbrev cX6_opens : ByteArray := prog_8_method_21_code
def yX6_opens : MethodName := ⟨RX6, "opens", "()I"⟩
abbrev cX6_all : ByteArray := prog_8_method_22_code
def yX6_all : MethodName := ⟨RX6, "all", "(I)I"⟩
abbrev cX6_method : ByteArray := prog_8_method_23_code
def yX6_method : MethodName := ⟨RX6, "method", "(I)I"⟩
abbrev cX6_isOpen : ByteArray := prog_8_method_24_code
def yX6_isOpen : MethodName := ⟨RX6, "isOpen", "(I)Z"⟩
abbrev cX6_firstOpen : ByteArray := prog_8_method_25_code
def yX6_firstOpen : MethodName := ⟨RX6, "firstOpen", "(I)I"⟩
abbrev cX6_far : ByteArray := prog_8_method_26_code
def yX6_far : MethodName := ⟨RX6, "far", "(II)I"⟩
abbrev cX6_bestOf : ByteArray := prog_8_method_27_code
def yX6_bestOf : MethodName := ⟨RX6, "bestOf", "(II)I"⟩
abbrev cX6_nextIn : ByteArray := prog_8_method_28_code
def yX6_nextIn : MethodName := ⟨RX6, "nextIn", "(II)I"⟩
abbrev cX6_finds : ByteArray := prog_8_method_29_code
def yX6_finds : MethodName := ⟨RX6, "finds", "()Z"⟩
abbrev cX6_sizeOfPlay : ByteArray := prog_8_method_30_code
def yX6_sizeOfPlay : MethodName := ⟨RX6, "sizeOfPlay", "()I"⟩
abbrev cX6_chancesOfOne : ByteArray := prog_8_method_31_code
def yX6_chancesOfOne : MethodName := ⟨RX6, "chancesOfOne", "()I"⟩
abbrev cX6_gets : ByteArray := prog_8_method_32_code
def yX6_gets : MethodName := ⟨RX6, "gets", "(Z)V"⟩
abbrev cX6_begins : ByteArray := prog_8_method_33_code
def yX6_begins : MethodName := ⟨RX6, "begins", "()V"⟩
abbrev cX6_sampleNow : ByteArray := prog_8_method_34_code
def yX6_sampleNow : MethodName := ⟨RX6, "sampleNow", "()I"⟩
abbrev cX6_walked : ByteArray := prog_8_method_35_code
def yX6_walked : MethodName := ⟨RX6, "walked", "(I)I"⟩
abbrev cX6_walks : ByteArray := prog_8_method_36_code
def yX6_walks : MethodName := ⟨RX6, "walks", "(I)I"⟩
abbrev cX6_isSeed : ByteArray := prog_8_method_37_code
def yX6_isSeed : MethodName := ⟨RX6, "isSeed", "(I)Z"⟩
abbrev cX6_walk : ByteArray := prog_8_method_38_code
def yX6_walk : MethodName := ⟨RX6, "walk", "(I)I"⟩
abbrev cX6_wasOf : ByteArray := prog_8_method_39_code
def yX6_wasOf : MethodName := ⟨RX6, "wasOf", "(I)I"⟩
abbrev cX6_was : ByteArray := prog_8_method_40_code
def yX6_was : MethodName := ⟨RX6, "was", "(I)I"⟩
abbrev cX6_play : ByteArray := prog_8_method_41_code
def yX6_play : MethodName := ⟨RX6, "play", "(II)I"⟩
abbrev cX6_countedUp : ByteArray := prog_8_method_42_code
def yX6_countedUp : MethodName := ⟨RX6, "countedUp", "(II)J"⟩
abbrev cX6_missOf : ByteArray := prog_8_method_43_code
def yX6_missOf : MethodName := ⟨RX6, "missOf", "(I)J"⟩
abbrev cX6_counted : ByteArray := prog_8_method_44_code
def yX6_counted : MethodName := ⟨RX6, "counted", "(I)J"⟩
abbrev cX6_inside : ByteArray := prog_8_method_45_code
def yX6_inside : MethodName := ⟨RX6, "inside", "(I)I"⟩
abbrev cX6_spread : ByteArray := prog_8_method_46_code
def yX6_spread : MethodName := ⟨RX6, "spread", "()I"⟩
abbrev cX6_areSeeds : ByteArray := prog_8_method_47_code
def yX6_areSeeds : MethodName := ⟨RX6, "areSeeds", "(II)Z"⟩
abbrev cX6_howOften : ByteArray := prog_8_method_48_code
def yX6_howOften : MethodName := ⟨RX6, "howOften", "(III)I"⟩
abbrev cX6_both : ByteArray := prog_8_method_49_code
def yX6_both : MethodName := ⟨RX6, "both", "(IIII)I"⟩
abbrev cX6_often : ByteArray := prog_8_method_50_code
def yX6_often : MethodName := ⟨RX6, "often", "(III)I"⟩
abbrev cX6_best : ByteArray := prog_8_method_51_code
def yX6_best : MethodName := ⟨RX6, "best", "(III)J"⟩
abbrev cX6_layCan : ByteArray := prog_8_method_52_code
def yX6_layCan : MethodName := ⟨RX6, "layCan", "()V"⟩
abbrev cX6_many : ByteArray := prog_8_method_53_code
def yX6_many : MethodName := ⟨RX6, "many", "()I"⟩
abbrev cX6_sizes : ByteArray := prog_8_method_54_code
def yX6_sizes : MethodName := ⟨RX6, "sizes", "(I)I"⟩
abbrev cX6_can : ByteArray := prog_8_method_55_code
def yX6_can : MethodName := ⟨RX6, "can", "(II)I"⟩
abbrev cX6_least : ByteArray := prog_8_method_56_code
def yX6_least : MethodName := ⟨RX6, "least", "()J"⟩
abbrev cX6_type : ByteArray := prog_8_method_57_code
def yX6_type : MethodName := ⟨RX6, "type", "(I)I"⟩
abbrev cX6_clear : ByteArray := prog_8_method_58_code
def yX6_clear : MethodName := ⟨RX6, "clear", "()I"⟩
abbrev cX6_tells : ByteArray := prog_8_method_59_code
def yX6_tells : MethodName := ⟨RX6, "tells", "(I)V"⟩
abbrev cX6_tellsNumber : ByteArray := prog_8_method_60_code
def yX6_tellsNumber : MethodName := ⟨RX6, "tellsNumber", "(I)V"⟩
abbrev cX6_letters : ByteArray := prog_8_method_61_code
def yX6_letters : MethodName := ⟨RX6, "letters", "(I)J"⟩
abbrev cX6_by27 : ByteArray := prog_8_method_62_code
def yX6_by27 : MethodName := ⟨RX6, "by27", "(JI)J"⟩
abbrev cX6_spells : ByteArray := prog_8_method_63_code
def yX6_spells : MethodName := ⟨RX6, "spells", "(IIIIIII)J"⟩
abbrev cX6_tellsWord : ByteArray := prog_8_method_64_code
def yX6_tellsWord : MethodName := ⟨RX6, "tellsWord", "(I)V"⟩
abbrev cX6_skip : ByteArray := prog_8_method_65_code
def yX6_skip : MethodName := ⟨RX6, "skip", "()V"⟩
abbrev cX6_isByte : ByteArray := prog_8_method_66_code
def yX6_isByte : MethodName := ⟨RX6, "isByte", "(III)Z"⟩
abbrev cX6_takesWord : ByteArray := prog_8_method_67_code
def yX6_takesWord : MethodName := ⟨RX6, "takesWord", "()I"⟩
abbrev cX6_takesNumber : ByteArray := prog_8_method_68_code
def yX6_takesNumber : MethodName := ⟨RX6, "takesNumber", "(II)I"⟩
abbrev cX6_argsOf : ByteArray := prog_8_method_69_code
def yX6_argsOf : MethodName := ⟨RX6, "argsOf", "(I)I"⟩
abbrev cX6_mostAt : ByteArray := prog_8_method_70_code
def yX6_mostAt : MethodName := ⟨RX6, "mostAt", "(III)I"⟩
abbrev cX6_reads : ByteArray := prog_8_method_71_code
def yX6_reads : MethodName := ⟨RX6, "reads", "(I)I"⟩
abbrev cX6_tellsSample : ByteArray := prog_8_method_72_code
def yX6_tellsSample : MethodName := ⟨RX6, "tellsSample", "()V"⟩
abbrev cX6_does : ByteArray := prog_8_method_73_code
def yX6_does : MethodName := ⟨RX6, "does", "(I)V"⟩
abbrev cX6_goesThrough : ByteArray := prog_8_method_74_code
def yX6_goesThrough : MethodName := ⟨RX6, "goesThrough", "(Z)I"⟩
abbrev cX6_says : ByteArray := prog_8_method_75_code
def yX6_says : MethodName := ⟨RX6, "says", "()I"⟩
abbrev cX6_answer : ByteArray := prog_8_method_76_code
def yX6_answer : MethodName := ⟨RX6, "answer", "(I)I"⟩
abbrev cX6_toldOf : ByteArray := prog_8_method_77_code
def yX6_toldOf : MethodName := ⟨RX6, "toldOf", "(I)I"⟩
abbrev cX6_told : ByteArray := prog_8_method_78_code
def yX6_told : MethodName := ⟨RX6, "told", "(I)I"⟩
abbrev cX6_digest : ByteArray := prog_8_method_79_code
def yX6_digest : MethodName := ⟨RX6, "digest", "()J"⟩
def RJx145de : String := "java/io/Serializable"
def RJx9f9b0 : String := "java/lang/CharSequence"
def RJxb160c : String := "java/lang/Comparable"
def RJ6 : String := "java/lang/Integer"
abbrev cJ6_bitCount_0f7a4 : ByteArray := prog_9_method_49_code
def yJ6_bitCount_0f7a4 : MethodName := ⟨RJ6, "bitCount", "(I)I"⟩
def RJ13 : String := "java/lang/Long"
abbrev cJ13_bitCount_95d88 : ByteArray := prog_10_method_50_code
def yJ13_bitCount_95d88 : MethodName := ⟨RJ13, "bitCount", "(J)I"⟩
def RJ9 : String := "java/lang/Math"
abbrev cJ9_abs_0f7a4 : ByteArray := prog_11_method_59_code
def yJ9_abs_0f7a4 : MethodName := ⟨RJ9, "abs", "(I)I"⟩
abbrev cJ9_abs_067f4 : ByteArray := prog_11_method_61_code
def yJ9_abs_067f4 : MethodName := ⟨RJ9, "abs", "(J)J"⟩
abbrev cJ9_max_7cf53 : ByteArray := prog_11_method_65_code
def yJ9_max_7cf53 : MethodName := ⟨RJ9, "max", "(II)I"⟩
abbrev cJ9_min_7cf53 : ByteArray := prog_11_method_69_code
def yJ9_min_7cf53 : MethodName := ⟨RJ9, "min", "(II)I"⟩
abbrev cJ9_min_f86c9 : ByteArray := prog_11_method_70_code
def yJ9_min_f86c9 : MethodName := ⟨RJ9, "min", "(JJ)J"⟩
def RJ0 : String := "java/lang/String"
abbrev cJ0_length_8abf5 : ByteArray := prog_12_method_54_code
def yJ0_length_8abf5 : MethodName := ⟨RJ0, "length", "()I"⟩
abbrev cJ0_charAt_5068e : ByteArray := prog_12_method_56_code
def yJ0_charAt_5068e : MethodName := ⟨RJ0, "charAt", "(I)C"⟩
abbrev cJ0_coder_7d493 : ByteArray := prog_12_method_152_code
def yJ0_coder_7d493 : MethodName := ⟨RJ0, "coder", "()B"⟩
abbrev cJ0_isLatin1_aae02 : ByteArray := prog_12_method_154_code
def yJ0_isLatin1_aae02 : MethodName := ⟨RJ0, "isLatin1", "()Z"⟩
abbrev cJ0_checkIndex_df160 : ByteArray := prog_12_method_155_code
def yJ0_checkIndex_df160 : MethodName := ⟨RJ0, "checkIndex", "(II)V"⟩
def RJ1 : String := "java/lang/StringLatin1"
abbrev cJ1_charAt_3b067 : ByteArray := prog_13_method_2_code
def yJ1_charAt_3b067 : MethodName := ⟨RJ1, "charAt", "([BI)C"⟩
def RJ2 : String := "java/lang/StringUTF16"
abbrev cJ2_getChar_3b067 : ByteArray := prog_14_method_5_code
def yJ2_getChar_3b067 : MethodName := ⟨RJ2, "getChar", "([BI)C"⟩
abbrev cJ2_length_9d52b : ByteArray := prog_14_method_6_code
def yJ2_length_9d52b : MethodName := ⟨RJ2, "length", "([B)I"⟩
abbrev cJ2_charAt_3b067 : ByteArray := prog_14_method_83_code
def yJ2_charAt_3b067 : MethodName := ⟨RJ2, "charAt", "([BI)C"⟩
abbrev cJ2_checkIndex_2214a : ByteArray := prog_14_method_91_code
def yJ2_checkIndex_2214a : MethodName := ⟨RJ2, "checkIndex", "(I[B)V"⟩
def RJxfd54e : String := "java/lang/constant/Constable"
def RJx3cf43 : String := "java/lang/constant/ConstantDesc"
def RJ7 : String := "java/util/Arrays"
abbrev cJ7_fill_d0a16 : ByteArray := prog_15_method_101_code
def yJ7_fill_d0a16 : MethodName := ⟨RJ7, "fill", "([JJ)V"⟩
def RJ3 : String := "jdk/internal/util/Preconditions"
abbrev cJ3_checkIndex_8e157 : ByteArray := prog_16_method_11_code
def yJ3_checkIndex_8e157 : MethodName := ⟨RJ3, "checkIndex", "(IILjava/util/function/BiFunction;)I"⟩
def RL : String := "DuelSamplesLaw"
abbrev cL_law : ByteArray := code
def yL_law : MethodName := ⟨RL, "law", "([I)Z"⟩
end
section
theorem dX0_init_0 : decode cX0_init 0 = .ok (.aload_n 0, 1) := by decide +kernel
theorem dX0_init_1 : decode cX0_init 1 = .ok (.invokespecial 3, 3) := by decide +kernel
theorem dX0_init_4 : decode cX0_init 4 = .ok (.aload_n 0, 1) := by decide +kernel
theorem dX0_init_5 : decode cX0_init 5 = .ok (.bipush 12, 2) := by decide +kernel
theorem dX0_init_7 : decode cX0_init 7 = .ok (.newarray .int, 2) := by decide +kernel
theorem dX0_init_9 : decode cX0_init 9 = .ok (.putfield 9, 3) := by decide +kernel
theorem dX0_init_12 : decode cX0_init 12 = .ok (.aload_n 0, 1) := by decide +kernel
theorem dX0_init_13 : decode cX0_init 13 = .ok (.bipush 12, 2) := by decide +kernel
theorem dX0_init_15 : decode cX0_init 15 = .ok (.newarray .int, 2) := by decide +kernel
theorem dX0_init_17 : decode cX0_init 17 = .ok (.putfield 15, 3) := by decide +kernel
theorem dX0_init_20 : decode cX0_init 20 = .ok (.aload_n 0, 1) := by decide +kernel
theorem dX0_init_21 : decode cX0_init 21 = .ok (.bipush 12, 2) := by decide +kernel
theorem dX0_init_23 : decode cX0_init 23 = .ok (.newarray .int, 2) := by decide +kernel
theorem dX0_init_25 : decode cX0_init 25 = .ok (.putfield 18, 3) := by decide +kernel
theorem dX0_init_28 : decode cX0_init 28 = .ok (.aload_n 0, 1) := by decide +kernel
theorem dX0_init_29 : decode cX0_init 29 = .ok (.bipush 12, 2) := by decide +kernel
theorem dX0_init_31 : decode cX0_init 31 = .ok (.newarray .int, 2) := by decide +kernel
theorem dX0_init_33 : decode cX0_init 33 = .ok (.putfield 21, 3) := by decide +kernel
theorem dX0_init_36 : decode cX0_init 36 = .ok (.return_, 1) := by decide +kernel
theorem dX0_run_0 : decode cX0_run 0 = .ok (.aload_n 0, 1) := by decide +kernel
theorem dX0_run_1 : decode cX0_run 1 = .ok (.invokevirtual 24, 3) := by decide +kernel
theorem dX0_run_4 : decode cX0_run 4 = .ok (.aload_n 0, 1) := by decide +kernel
theorem dX0_run_5 : decode cX0_run 5 = .ok (.aload_n 1, 1) := by decide +kernel
theorem dX0_run_6 : decode cX0_run 6 = .ok (.invokevirtual 27, 3) := by decide +kernel
theorem dX0_run_9 : decode cX0_run 9 = .ok (.iload_n 3, 1) := by decide +kernel
theorem dX0_run_10 : decode cX0_run 10 = .ok (.i2l, 1) := by decide +kernel
theorem dX0_run_11 : decode cX0_run 11 = .ok (.lstore 4, 2) := by decide +kernel
theorem dX0_run_13 : decode cX0_run 13 = .ok (.iconst 0, 1) := by decide +kernel
theorem dX0_run_14 : decode cX0_run 14 = .ok (.istore 6, 2) := by decide +kernel
theorem dX0_run_16 : decode cX0_run 16 = .ok (.iload 6, 2) := by decide +kernel
theorem dX0_run_18 : decode cX0_run 18 = .ok (.bipush 12, 2) := by decide +kernel
theorem dX0_run_20 : decode cX0_run 20 = .ok (.if_icmp .ge 74, 3) := by decide +kernel
theorem dX0_run_23 : decode cX0_run 23 = .ok (.aload_n 0, 1) := by decide +kernel
theorem dX0_run_24 : decode cX0_run 24 = .ok (.aload_n 1, 1) := by decide +kernel
theorem dX0_run_25 : decode cX0_run 25 = .ok (.iload_n 2, 1) := by decide +kernel
theorem dX0_run_26 : decode cX0_run 26 = .ok (.invokevirtual 31, 3) := by decide +kernel
theorem dX0_run_29 : decode cX0_run 29 = .ok (.ifCond .eq 65, 3) := by decide +kernel
theorem dX0_run_32 : decode cX0_run 32 = .ok (.lload 4, 2) := by decide +kernel
theorem dX0_run_34 : decode cX0_run 34 = .ok (.invokestatic 35, 3) := by decide +kernel
theorem dX0_run_37 : decode cX0_run 37 = .ok (.lstore 4, 2) := by decide +kernel
theorem dX0_run_39 : decode cX0_run 39 = .ok (.aload_n 0, 1) := by decide +kernel
theorem dX0_run_40 : decode cX0_run 40 = .ok (.invokevirtual 39, 3) := by decide +kernel
theorem dX0_run_43 : decode cX0_run 43 = .ok (.istore 7, 2) := by decide +kernel
theorem dX0_run_45 : decode cX0_run 45 = .ok (.iload 7, 2) := by decide +kernel
theorem dX0_run_47 : decode cX0_run 47 = .ok (.ifCond .le 26, 3) := by decide +kernel
theorem dX0_run_50 : decode cX0_run 50 = .ok (.lload 4, 2) := by decide +kernel
theorem dX0_run_52 : decode cX0_run 52 = .ok (.ldc2_w 43, 3) := by decide +kernel
theorem dX0_run_55 : decode cX0_run 55 = .ok (.ldiv, 1) := by decide +kernel
theorem dX0_run_56 : decode cX0_run 56 = .ok (.iload 7, 2) := by decide +kernel
theorem dX0_run_58 : decode cX0_run 58 = .ok (.i2l, 1) := by decide +kernel
theorem dX0_run_59 : decode cX0_run 59 = .ok (.lrem, 1) := by decide +kernel
theorem dX0_run_60 : decode cX0_run 60 = .ok (.aload_n 0, 1) := by decide +kernel
theorem dX0_run_61 : decode cX0_run 61 = .ok (.invokevirtual 45, 3) := by decide +kernel
theorem dX0_run_64 : decode cX0_run 64 = .ok (.i2l, 1) := by decide +kernel
theorem dX0_run_65 : decode cX0_run 65 = .ok (.lcmp, 1) := by decide +kernel
theorem dX0_run_66 : decode cX0_run 66 = .ok (.ifCond .ge 7, 3) := by decide +kernel
theorem dX0_run_69 : decode cX0_run 69 = .ok (.iconst 1, 1) := by decide +kernel
theorem dX0_run_70 : decode cX0_run 70 = .ok (.goto 4, 3) := by decide +kernel
theorem dX0_run_73 : decode cX0_run 73 = .ok (.iconst 0, 1) := by decide +kernel
theorem dX0_run_74 : decode cX0_run 74 = .ok (.istore 8, 2) := by decide +kernel
theorem dX0_run_76 : decode cX0_run 76 = .ok (.aload_n 0, 1) := by decide +kernel
theorem dX0_run_77 : decode cX0_run 77 = .ok (.iload 8, 2) := by decide +kernel
theorem dX0_run_79 : decode cX0_run 79 = .ok (.invokevirtual 48, 3) := by decide +kernel
theorem dX0_run_82 : decode cX0_run 82 = .ok (.aload_n 0, 1) := by decide +kernel
theorem dX0_run_83 : decode cX0_run 83 = .ok (.iload 8, 2) := by decide +kernel
theorem dX0_run_85 : decode cX0_run 85 = .ok (.invokevirtual 52, 3) := by decide +kernel
theorem dX0_run_88 : decode cX0_run 88 = .ok (.iinc 6 1, 3) := by decide +kernel
theorem dX0_run_91 : decode cX0_run 91 = .ok (.goto (-75), 3) := by decide +kernel
theorem dX0_run_94 : decode cX0_run 94 = .ok (.aload_n 0, 1) := by decide +kernel
theorem dX0_run_95 : decode cX0_run 95 = .ok (.aload_n 0, 1) := by decide +kernel
theorem dX0_run_96 : decode cX0_run 96 = .ok (.invokevirtual 55, 3) := by decide +kernel
theorem dX0_run_99 : decode cX0_run 99 = .ok (.putfield 58, 3) := by decide +kernel
theorem dX0_run_102 : decode cX0_run 102 = .ok (.return_, 1) := by decide +kernel
theorem dX0_forget_0 : decode cX0_forget 0 = .ok (.aload_n 0, 1) := by decide +kernel
theorem dX0_forget_1 : decode cX0_forget 1 = .ok (.iconst 0, 1) := by decide +kernel
theorem dX0_forget_2 : decode cX0_forget 2 = .ok (.putfield 58, 3) := by decide +kernel
theorem dX0_forget_5 : decode cX0_forget 5 = .ok (.aload_n 0, 1) := by decide +kernel
theorem dX0_forget_6 : decode cX0_forget 6 = .ok (.iconst 0, 1) := by decide +kernel
theorem dX0_forget_7 : decode cX0_forget 7 = .ok (.putfield 62, 3) := by decide +kernel
theorem dX0_forget_10 : decode cX0_forget 10 = .ok (.aload_n 0, 1) := by decide +kernel
theorem dX0_forget_11 : decode cX0_forget 11 = .ok (.iconst 0, 1) := by decide +kernel
theorem dX0_forget_12 : decode cX0_forget 12 = .ok (.putfield 65, 3) := by decide +kernel
theorem dX0_forget_15 : decode cX0_forget 15 = .ok (.aload_n 0, 1) := by decide +kernel
theorem dX0_forget_16 : decode cX0_forget 16 = .ok (.iconst 0, 1) := by decide +kernel
theorem dX0_forget_17 : decode cX0_forget 17 = .ok (.putfield 68, 3) := by decide +kernel
theorem dX0_forget_20 : decode cX0_forget 20 = .ok (.return_, 1) := by decide +kernel
theorem dX0_begin_0 : decode cX0_begin 0 = .ok (.iconst 0, 1) := by decide +kernel
theorem dX0_begin_1 : decode cX0_begin 1 = .ok (.istore_n 2, 1) := by decide +kernel
theorem dX0_begin_2 : decode cX0_begin 2 = .ok (.iload_n 2, 1) := by decide +kernel
theorem dX0_begin_3 : decode cX0_begin 3 = .ok (.bipush 12, 2) := by decide +kernel
theorem dX0_begin_5 : decode cX0_begin 5 = .ok (.if_icmp .ge 21, 3) := by decide +kernel
theorem dX0_begin_8 : decode cX0_begin 8 = .ok (.aload_n 0, 1) := by decide +kernel
theorem dX0_begin_9 : decode cX0_begin 9 = .ok (.getfield 9, 3) := by decide +kernel
theorem dX0_begin_12 : decode cX0_begin 12 = .ok (.iload_n 2, 1) := by decide +kernel
theorem dX0_begin_13 : decode cX0_begin 13 = .ok (.aload_n 1, 1) := by decide +kernel
theorem dX0_begin_14 : decode cX0_begin 14 = .ok (.iload_n 2, 1) := by decide +kernel
theorem dX0_begin_15 : decode cX0_begin 15 = .ok (.iconst 0, 1) := by decide +kernel
theorem dX0_begin_16 : decode cX0_begin 16 = .ok (.invokevirtual 71, 3) := by decide +kernel
theorem dX0_begin_19 : decode cX0_begin 19 = .ok (.iastore, 1) := by decide +kernel
theorem dX0_begin_20 : decode cX0_begin 20 = .ok (.iinc 2 1, 3) := by decide +kernel
theorem dX0_begin_23 : decode cX0_begin 23 = .ok (.goto (-21), 3) := by decide +kernel
theorem dX0_begin_26 : decode cX0_begin 26 = .ok (.return_, 1) := by decide +kernel
theorem dX0_holds_0 : decode cX0_holds 0 = .ok (.iload_n 1, 1) := by decide +kernel
theorem dX0_holds_1 : decode cX0_holds 1 = .ok (.ifCond .lt 25, 3) := by decide +kernel
theorem dX0_holds_4 : decode cX0_holds 4 = .ok (.iload_n 1, 1) := by decide +kernel
theorem dX0_holds_5 : decode cX0_holds 5 = .ok (.bipush 12, 2) := by decide +kernel
theorem dX0_holds_7 : decode cX0_holds 7 = .ok (.if_icmp .ge 19, 3) := by decide +kernel
theorem dX0_holds_10 : decode cX0_holds 10 = .ok (.aload_n 0, 1) := by decide +kernel
theorem dX0_holds_11 : decode cX0_holds 11 = .ok (.getfield 58, 3) := by decide +kernel
theorem dX0_holds_14 : decode cX0_holds 14 = .ok (.iload_n 1, 1) := by decide +kernel
theorem dX0_holds_15 : decode cX0_holds 15 = .ok (.ishr, 1) := by decide +kernel
theorem dX0_holds_16 : decode cX0_holds 16 = .ok (.iconst 1, 1) := by decide +kernel
theorem dX0_holds_17 : decode cX0_holds 17 = .ok (.iand, 1) := by decide +kernel
theorem dX0_holds_18 : decode cX0_holds 18 = .ok (.iconst 1, 1) := by decide +kernel
theorem dX0_holds_19 : decode cX0_holds 19 = .ok (.if_icmp .ne 7, 3) := by decide +kernel
theorem dX0_holds_22 : decode cX0_holds 22 = .ok (.iconst 1, 1) := by decide +kernel
theorem dX0_holds_23 : decode cX0_holds 23 = .ok (.goto 4, 3) := by decide +kernel
theorem dX0_holds_26 : decode cX0_holds 26 = .ok (.iconst 0, 1) := by decide +kernel
theorem dX0_holds_27 : decode cX0_holds 27 = .ok (.ireturn, 1) := by decide +kernel
theorem dX0_tally_0 : decode cX0_tally 0 = .ok (.iload_n 1, 1) := by decide +kernel
theorem dX0_tally_1 : decode cX0_tally 1 = .ok (.tableswitch 42 0 2 #[27, 32, 37], 27) := by decide +kernel
theorem dX0_tally_28 : decode cX0_tally 28 = .ok (.aload_n 0, 1) := by decide +kernel
theorem dX0_tally_29 : decode cX0_tally 29 = .ok (.getfield 58, 3) := by decide +kernel
theorem dX0_tally_32 : decode cX0_tally 32 = .ok (.ireturn, 1) := by decide +kernel
theorem dX0_tally_33 : decode cX0_tally 33 = .ok (.aload_n 0, 1) := by decide +kernel
theorem dX0_tally_34 : decode cX0_tally 34 = .ok (.getfield 62, 3) := by decide +kernel
theorem dX0_tally_37 : decode cX0_tally 37 = .ok (.ireturn, 1) := by decide +kernel
theorem dX0_tally_38 : decode cX0_tally 38 = .ok (.aload_n 0, 1) := by decide +kernel
theorem dX0_tally_39 : decode cX0_tally 39 = .ok (.getfield 65, 3) := by decide +kernel
theorem dX0_tally_42 : decode cX0_tally 42 = .ok (.ireturn, 1) := by decide +kernel
theorem dX0_tally_43 : decode cX0_tally 43 = .ok (.aload_n 0, 1) := by decide +kernel
theorem dX0_tally_44 : decode cX0_tally 44 = .ok (.getfield 68, 3) := by decide +kernel
theorem dX0_tally_47 : decode cX0_tally 47 = .ok (.ireturn, 1) := by decide +kernel
theorem dX0_recorded_0 : decode cX0_recorded 0 = .ok (.iload_n 1, 1) := by decide +kernel
theorem dX0_recorded_1 : decode cX0_recorded 1 = .ok (.ifCond .lt 17, 3) := by decide +kernel
theorem dX0_recorded_4 : decode cX0_recorded 4 = .ok (.iload_n 1, 1) := by decide +kernel
theorem dX0_recorded_5 : decode cX0_recorded 5 = .ok (.aload_n 0, 1) := by decide +kernel
theorem dX0_recorded_6 : decode cX0_recorded 6 = .ok (.getfield 62, 3) := by decide +kernel
theorem dX0_recorded_9 : decode cX0_recorded 9 = .ok (.if_icmp .ge 9, 3) := by decide +kernel
theorem dX0_recorded_12 : decode cX0_recorded 12 = .ok (.iload_n 1, 1) := by decide +kernel
theorem dX0_recorded_13 : decode cX0_recorded 13 = .ok (.bipush 12, 2) := by decide +kernel
theorem dX0_recorded_15 : decode cX0_recorded 15 = .ok (.if_icmp .lt 5, 3) := by decide +kernel
theorem dX0_recorded_18 : decode cX0_recorded 18 = .ok (.iconst (-1), 1) := by decide +kernel
theorem dX0_recorded_19 : decode cX0_recorded 19 = .ok (.ireturn, 1) := by decide +kernel
theorem dX0_recorded_20 : decode cX0_recorded 20 = .ok (.iload_n 2, 1) := by decide +kernel
theorem dX0_recorded_21 : decode cX0_recorded 21 = .ok (.ifCond .ne 10, 3) := by decide +kernel
theorem dX0_recorded_24 : decode cX0_recorded 24 = .ok (.aload_n 0, 1) := by decide +kernel
theorem dX0_recorded_25 : decode cX0_recorded 25 = .ok (.getfield 15, 3) := by decide +kernel
theorem dX0_recorded_28 : decode cX0_recorded 28 = .ok (.iload_n 1, 1) := by decide +kernel
theorem dX0_recorded_29 : decode cX0_recorded 29 = .ok (.iaload, 1) := by decide +kernel
theorem dX0_recorded_30 : decode cX0_recorded 30 = .ok (.ireturn, 1) := by decide +kernel
theorem dX0_recorded_31 : decode cX0_recorded 31 = .ok (.iload_n 2, 1) := by decide +kernel
theorem dX0_recorded_32 : decode cX0_recorded 32 = .ok (.iconst 1, 1) := by decide +kernel
theorem dX0_recorded_33 : decode cX0_recorded 33 = .ok (.if_icmp .ne 12, 3) := by decide +kernel
theorem dX0_recorded_36 : decode cX0_recorded 36 = .ok (.aload_n 0, 1) := by decide +kernel
theorem dX0_recorded_37 : decode cX0_recorded 37 = .ok (.getfield 18, 3) := by decide +kernel
theorem dX0_recorded_40 : decode cX0_recorded 40 = .ok (.iload_n 1, 1) := by decide +kernel
theorem dX0_recorded_41 : decode cX0_recorded 41 = .ok (.iaload, 1) := by decide +kernel
theorem dX0_recorded_42 : decode cX0_recorded 42 = .ok (.goto 9, 3) := by decide +kernel
theorem dX0_recorded_45 : decode cX0_recorded 45 = .ok (.aload_n 0, 1) := by decide +kernel
theorem dX0_recorded_46 : decode cX0_recorded 46 = .ok (.getfield 21, 3) := by decide +kernel
theorem dX0_recorded_49 : decode cX0_recorded 49 = .ok (.iload_n 1, 1) := by decide +kernel
theorem dX0_recorded_50 : decode cX0_recorded 50 = .ok (.iaload, 1) := by decide +kernel
theorem dX0_recorded_51 : decode cX0_recorded 51 = .ok (.ireturn, 1) := by decide +kernel
theorem dX0_leftOf_0 : decode cX0_leftOf 0 = .ok (.iload_n 1, 1) := by decide +kernel
theorem dX0_leftOf_1 : decode cX0_leftOf 1 = .ok (.ifCond .lt 18, 3) := by decide +kernel
theorem dX0_leftOf_4 : decode cX0_leftOf 4 = .ok (.iload_n 1, 1) := by decide +kernel
theorem dX0_leftOf_5 : decode cX0_leftOf 5 = .ok (.bipush 12, 2) := by decide +kernel
theorem dX0_leftOf_7 : decode cX0_leftOf 7 = .ok (.if_icmp .ge 12, 3) := by decide +kernel
theorem dX0_leftOf_10 : decode cX0_leftOf 10 = .ok (.aload_n 0, 1) := by decide +kernel
theorem dX0_leftOf_11 : decode cX0_leftOf 11 = .ok (.getfield 9, 3) := by decide +kernel
theorem dX0_leftOf_14 : decode cX0_leftOf 14 = .ok (.iload_n 1, 1) := by decide +kernel
theorem dX0_leftOf_15 : decode cX0_leftOf 15 = .ok (.iaload, 1) := by decide +kernel
theorem dX0_leftOf_16 : decode cX0_leftOf 16 = .ok (.goto 4, 3) := by decide +kernel
theorem dX0_leftOf_19 : decode cX0_leftOf 19 = .ok (.iconst 0, 1) := by decide +kernel
theorem dX0_leftOf_20 : decode cX0_leftOf 20 = .ok (.ireturn, 1) := by decide +kernel
theorem dX0_leave_0 : decode cX0_leave 0 = .ok (.iload_n 1, 1) := by decide +kernel
theorem dX0_leave_1 : decode cX0_leave 1 = .ok (.ifCond .lt 16, 3) := by decide +kernel
theorem dX0_leave_4 : decode cX0_leave 4 = .ok (.iload_n 1, 1) := by decide +kernel
theorem dX0_leave_5 : decode cX0_leave 5 = .ok (.bipush 12, 2) := by decide +kernel
theorem dX0_leave_7 : decode cX0_leave 7 = .ok (.if_icmp .ge 10, 3) := by decide +kernel
theorem dX0_leave_10 : decode cX0_leave 10 = .ok (.aload_n 0, 1) := by decide +kernel
theorem dX0_leave_11 : decode cX0_leave 11 = .ok (.getfield 9, 3) := by decide +kernel
theorem dX0_leave_14 : decode cX0_leave 14 = .ok (.iload_n 1, 1) := by decide +kernel
theorem dX0_leave_15 : decode cX0_leave 15 = .ok (.iload_n 2, 1) := by decide +kernel
theorem dX0_leave_16 : decode cX0_leave 16 = .ok (.iastore, 1) := by decide +kernel
theorem dX0_leave_17 : decode cX0_leave 17 = .ok (.return_, 1) := by decide +kernel
theorem dX0_isOpen_0 : decode cX0_isOpen 0 = .ok (.iload_n 1, 1) := by decide +kernel
theorem dX0_isOpen_1 : decode cX0_isOpen 1 = .ok (.ifCond .lt 33, 3) := by decide +kernel
theorem dX0_isOpen_4 : decode cX0_isOpen 4 = .ok (.iload_n 1, 1) := by decide +kernel
theorem dX0_isOpen_5 : decode cX0_isOpen 5 = .ok (.bipush 12, 2) := by decide +kernel
theorem dX0_isOpen_7 : decode cX0_isOpen 7 = .ok (.if_icmp .ge 27, 3) := by decide +kernel
theorem dX0_isOpen_10 : decode cX0_isOpen 10 = .ok (.aload_n 0, 1) := by decide +kernel
theorem dX0_isOpen_11 : decode cX0_isOpen 11 = .ok (.getfield 9, 3) := by decide +kernel
theorem dX0_isOpen_14 : decode cX0_isOpen 14 = .ok (.iload_n 1, 1) := by decide +kernel
theorem dX0_isOpen_15 : decode cX0_isOpen 15 = .ok (.iaload, 1) := by decide +kernel
theorem dX0_isOpen_16 : decode cX0_isOpen 16 = .ok (.ifCond .le 18, 3) := by decide +kernel
theorem dX0_isOpen_19 : decode cX0_isOpen 19 = .ok (.aload_n 0, 1) := by decide +kernel
theorem dX0_isOpen_20 : decode cX0_isOpen 20 = .ok (.getfield 9, 3) := by decide +kernel
theorem dX0_isOpen_23 : decode cX0_isOpen 23 = .ok (.iload_n 1, 1) := by decide +kernel
theorem dX0_isOpen_24 : decode cX0_isOpen 24 = .ok (.iaload, 1) := by decide +kernel
theorem dX0_isOpen_25 : decode cX0_isOpen 25 = .ok (.bipush 12, 2) := by decide +kernel
theorem dX0_isOpen_27 : decode cX0_isOpen 27 = .ok (.if_icmp .ge 7, 3) := by decide +kernel
theorem dX0_isOpen_30 : decode cX0_isOpen 30 = .ok (.iconst 1, 1) := by decide +kernel
theorem dX0_isOpen_31 : decode cX0_isOpen 31 = .ok (.goto 4, 3) := by decide +kernel
theorem dX0_isOpen_34 : decode cX0_isOpen 34 = .ok (.iconst 0, 1) := by decide +kernel
theorem dX0_isOpen_35 : decode cX0_isOpen 35 = .ok (.ireturn, 1) := by decide +kernel
theorem dX0_openFrom_0 : decode cX0_openFrom 0 = .ok (.iload_n 1, 1) := by decide +kernel
theorem dX0_openFrom_1 : decode cX0_openFrom 1 = .ok (.istore_n 2, 1) := by decide +kernel
theorem dX0_openFrom_2 : decode cX0_openFrom 2 = .ok (.iload_n 2, 1) := by decide +kernel
theorem dX0_openFrom_3 : decode cX0_openFrom 3 = .ok (.bipush 12, 2) := by decide +kernel
theorem dX0_openFrom_5 : decode cX0_openFrom 5 = .ok (.if_icmp .ge 19, 3) := by decide +kernel
theorem dX0_openFrom_8 : decode cX0_openFrom 8 = .ok (.aload_n 0, 1) := by decide +kernel
theorem dX0_openFrom_9 : decode cX0_openFrom 9 = .ok (.iload_n 2, 1) := by decide +kernel
theorem dX0_openFrom_10 : decode cX0_openFrom 10 = .ok (.invokevirtual 77, 3) := by decide +kernel
theorem dX0_openFrom_13 : decode cX0_openFrom 13 = .ok (.ifCond .eq 5, 3) := by decide +kernel
theorem dX0_openFrom_16 : decode cX0_openFrom 16 = .ok (.iload_n 2, 1) := by decide +kernel
theorem dX0_openFrom_17 : decode cX0_openFrom 17 = .ok (.ireturn, 1) := by decide +kernel
theorem dX0_openFrom_18 : decode cX0_openFrom 18 = .ok (.iinc 2 1, 3) := by decide +kernel
theorem dX0_openFrom_21 : decode cX0_openFrom 21 = .ok (.goto (-19), 3) := by decide +kernel
theorem dX0_openFrom_24 : decode cX0_openFrom 24 = .ok (.iconst (-1), 1) := by decide +kernel
theorem dX0_openFrom_25 : decode cX0_openFrom 25 = .ok (.ireturn, 1) := by decide +kernel
theorem dX0_pick_0 : decode cX0_pick 0 = .ok (.aload_n 0, 1) := by decide +kernel
theorem dX0_pick_1 : decode cX0_pick 1 = .ok (.aload_n 0, 1) := by decide +kernel
theorem dX0_pick_2 : decode cX0_pick 2 = .ok (.iconst 0, 1) := by decide +kernel
theorem dX0_pick_3 : decode cX0_pick 3 = .ok (.invokevirtual 81, 3) := by decide +kernel
theorem dX0_pick_6 : decode cX0_pick 6 = .ok (.putfield 85, 3) := by decide +kernel
theorem dX0_pick_9 : decode cX0_pick 9 = .ok (.aload_n 0, 1) := by decide +kernel
theorem dX0_pick_10 : decode cX0_pick 10 = .ok (.getfield 85, 3) := by decide +kernel
theorem dX0_pick_13 : decode cX0_pick 13 = .ok (.iconst (-1), 1) := by decide +kernel
theorem dX0_pick_14 : decode cX0_pick 14 = .ok (.if_icmp .ne 10, 3) := by decide +kernel
theorem dX0_pick_17 : decode cX0_pick 17 = .ok (.aload_n 0, 1) := by decide +kernel
theorem dX0_pick_18 : decode cX0_pick 18 = .ok (.iconst (-1), 1) := by decide +kernel
theorem dX0_pick_19 : decode cX0_pick 19 = .ok (.putfield 88, 3) := by decide +kernel
theorem dX0_pick_22 : decode cX0_pick 22 = .ok (.iconst 0, 1) := by decide +kernel
theorem dX0_pick_23 : decode cX0_pick 23 = .ok (.ireturn, 1) := by decide +kernel
theorem dX0_pick_24 : decode cX0_pick 24 = .ok (.aload_n 0, 1) := by decide +kernel
theorem dX0_pick_25 : decode cX0_pick 25 = .ok (.aload_n 0, 1) := by decide +kernel
theorem dX0_pick_26 : decode cX0_pick 26 = .ok (.aload_n 0, 1) := by decide +kernel
theorem dX0_pick_27 : decode cX0_pick 27 = .ok (.getfield 85, 3) := by decide +kernel
theorem dX0_pick_30 : decode cX0_pick 30 = .ok (.iconst 1, 1) := by decide +kernel
theorem dX0_pick_31 : decode cX0_pick 31 = .ok (.iadd, 1) := by decide +kernel
theorem dX0_pick_32 : decode cX0_pick 32 = .ok (.invokevirtual 81, 3) := by decide +kernel
theorem dX0_pick_35 : decode cX0_pick 35 = .ok (.putfield 88, 3) := by decide +kernel
theorem dX0_pick_38 : decode cX0_pick 38 = .ok (.aload_n 0, 1) := by decide +kernel
theorem dX0_pick_39 : decode cX0_pick 39 = .ok (.getfield 88, 3) := by decide +kernel
theorem dX0_pick_42 : decode cX0_pick 42 = .ok (.iconst (-1), 1) := by decide +kernel
theorem dX0_pick_43 : decode cX0_pick 43 = .ok (.if_icmp .ne 5, 3) := by decide +kernel
theorem dX0_pick_46 : decode cX0_pick 46 = .ok (.iconst 1, 1) := by decide +kernel
theorem dX0_pick_47 : decode cX0_pick 47 = .ok (.ireturn, 1) := by decide +kernel
theorem dX0_pick_48 : decode cX0_pick 48 = .ok (.iload_n 2, 1) := by decide +kernel
theorem dX0_pick_49 : decode cX0_pick 49 = .ok (.tableswitch 72 1 4 #[31, 44, 52, 65], 31) := by decide +kernel
theorem dX0_pick_80 : decode cX0_pick 80 = .ok (.aload_n 0, 1) := by decide +kernel
theorem dX0_pick_81 : decode cX0_pick 81 = .ok (.aload_n 0, 1) := by decide +kernel
theorem dX0_pick_82 : decode cX0_pick 82 = .ok (.aload_n 1, 1) := by decide +kernel
theorem dX0_pick_83 : decode cX0_pick 83 = .ok (.iconst 1, 1) := by decide +kernel
theorem dX0_pick_84 : decode cX0_pick 84 = .ok (.invokevirtual 91, 3) := by decide +kernel
theorem dX0_pick_87 : decode cX0_pick 87 = .ok (.putfield 88, 3) := by decide +kernel
theorem dX0_pick_90 : decode cX0_pick 90 = .ok (.goto 31, 3) := by decide +kernel
theorem dX0_pick_93 : decode cX0_pick 93 = .ok (.aload_n 0, 1) := by decide +kernel
theorem dX0_pick_94 : decode cX0_pick 94 = .ok (.aload_n 1, 1) := by decide +kernel
theorem dX0_pick_95 : decode cX0_pick 95 = .ok (.invokevirtual 95, 3) := by decide +kernel
theorem dX0_pick_98 : decode cX0_pick 98 = .ok (.goto 23, 3) := by decide +kernel
theorem dX0_pick_101 : decode cX0_pick 101 = .ok (.aload_n 0, 1) := by decide +kernel
theorem dX0_pick_102 : decode cX0_pick 102 = .ok (.aload_n 0, 1) := by decide +kernel
theorem dX0_pick_103 : decode cX0_pick 103 = .ok (.aload_n 1, 1) := by decide +kernel
theorem dX0_pick_104 : decode cX0_pick 104 = .ok (.iconst (-1), 1) := by decide +kernel
theorem dX0_pick_105 : decode cX0_pick 105 = .ok (.invokevirtual 91, 3) := by decide +kernel
theorem dX0_pick_108 : decode cX0_pick 108 = .ok (.putfield 88, 3) := by decide +kernel
theorem dX0_pick_111 : decode cX0_pick 111 = .ok (.goto 10, 3) := by decide +kernel
theorem dX0_pick_114 : decode cX0_pick 114 = .ok (.aload_n 0, 1) := by decide +kernel
theorem dX0_pick_115 : decode cX0_pick 115 = .ok (.invokevirtual 98, 3) := by decide +kernel
theorem dX0_pick_118 : decode cX0_pick 118 = .ok (.goto 3, 3) := by decide +kernel
theorem dX0_pick_121 : decode cX0_pick 121 = .ok (.iconst 1, 1) := by decide +kernel
theorem dX0_pick_122 : decode cX0_pick 122 = .ok (.ireturn, 1) := by decide +kernel
theorem dX0_byDistance_0 : decode cX0_byDistance 0 = .ok (.aload_n 0, 1) := by decide +kernel
theorem dX0_byDistance_1 : decode cX0_byDistance 1 = .ok (.getfield 88, 3) := by decide +kernel
theorem dX0_byDistance_4 : decode cX0_byDistance 4 = .ok (.istore_n 3, 1) := by decide +kernel
theorem dX0_byDistance_5 : decode cX0_byDistance 5 = .ok (.iload_n 2, 1) := by decide +kernel
theorem dX0_byDistance_6 : decode cX0_byDistance 6 = .ok (.aload_n 1, 1) := by decide +kernel
theorem dX0_byDistance_7 : decode cX0_byDistance 7 = .ok (.aload_n 0, 1) := by decide +kernel
theorem dX0_byDistance_8 : decode cX0_byDistance 8 = .ok (.getfield 85, 3) := by decide +kernel
theorem dX0_byDistance_11 : decode cX0_byDistance 11 = .ok (.aload_n 0, 1) := by decide +kernel
theorem dX0_byDistance_12 : decode cX0_byDistance 12 = .ok (.getfield 88, 3) := by decide +kernel
theorem dX0_byDistance_15 : decode cX0_byDistance 15 = .ok (.invokevirtual 101, 3) := by decide +kernel
theorem dX0_byDistance_18 : decode cX0_byDistance 18 = .ok (.imul, 1) := by decide +kernel
theorem dX0_byDistance_19 : decode cX0_byDistance 19 = .ok (.istore 4, 2) := by decide +kernel
theorem dX0_byDistance_21 : decode cX0_byDistance 21 = .ok (.aload_n 0, 1) := by decide +kernel
theorem dX0_byDistance_22 : decode cX0_byDistance 22 = .ok (.getfield 88, 3) := by decide +kernel
theorem dX0_byDistance_25 : decode cX0_byDistance 25 = .ok (.iconst 1, 1) := by decide +kernel
theorem dX0_byDistance_26 : decode cX0_byDistance 26 = .ok (.iadd, 1) := by decide +kernel
theorem dX0_byDistance_27 : decode cX0_byDistance 27 = .ok (.istore 5, 2) := by decide +kernel
theorem dX0_byDistance_29 : decode cX0_byDistance 29 = .ok (.iload 5, 2) := by decide +kernel
theorem dX0_byDistance_31 : decode cX0_byDistance 31 = .ok (.bipush 12, 2) := by decide +kernel
theorem dX0_byDistance_33 : decode cX0_byDistance 33 = .ok (.if_icmp .ge 51, 3) := by decide +kernel
theorem dX0_byDistance_36 : decode cX0_byDistance 36 = .ok (.aload_n 0, 1) := by decide +kernel
theorem dX0_byDistance_37 : decode cX0_byDistance 37 = .ok (.iload 5, 2) := by decide +kernel
theorem dX0_byDistance_39 : decode cX0_byDistance 39 = .ok (.invokevirtual 77, 3) := by decide +kernel
theorem dX0_byDistance_42 : decode cX0_byDistance 42 = .ok (.ifCond .eq 18, 3) := by decide +kernel
theorem dX0_byDistance_45 : decode cX0_byDistance 45 = .ok (.iload_n 2, 1) := by decide +kernel
theorem dX0_byDistance_46 : decode cX0_byDistance 46 = .ok (.aload_n 1, 1) := by decide +kernel
theorem dX0_byDistance_47 : decode cX0_byDistance 47 = .ok (.aload_n 0, 1) := by decide +kernel
theorem dX0_byDistance_48 : decode cX0_byDistance 48 = .ok (.getfield 85, 3) := by decide +kernel
theorem dX0_byDistance_51 : decode cX0_byDistance 51 = .ok (.iload 5, 2) := by decide +kernel
theorem dX0_byDistance_53 : decode cX0_byDistance 53 = .ok (.invokevirtual 101, 3) := by decide +kernel
theorem dX0_byDistance_56 : decode cX0_byDistance 56 = .ok (.imul, 1) := by decide +kernel
theorem dX0_byDistance_57 : decode cX0_byDistance 57 = .ok (.goto 5, 3) := by decide +kernel
theorem dX0_byDistance_60 : decode cX0_byDistance 60 = .ok (.iload 4, 2) := by decide +kernel
theorem dX0_byDistance_62 : decode cX0_byDistance 62 = .ok (.istore 6, 2) := by decide +kernel
theorem dX0_byDistance_64 : decode cX0_byDistance 64 = .ok (.iload 6, 2) := by decide +kernel
theorem dX0_byDistance_66 : decode cX0_byDistance 66 = .ok (.iload 4, 2) := by decide +kernel
theorem dX0_byDistance_68 : decode cX0_byDistance 68 = .ok (.if_icmp .ge 10, 3) := by decide +kernel
theorem dX0_byDistance_71 : decode cX0_byDistance 71 = .ok (.iload 5, 2) := by decide +kernel
theorem dX0_byDistance_73 : decode cX0_byDistance 73 = .ok (.istore_n 3, 1) := by decide +kernel
theorem dX0_byDistance_74 : decode cX0_byDistance 74 = .ok (.iload 6, 2) := by decide +kernel
theorem dX0_byDistance_76 : decode cX0_byDistance 76 = .ok (.istore 4, 2) := by decide +kernel
theorem dX0_byDistance_78 : decode cX0_byDistance 78 = .ok (.iinc 5 1, 3) := by decide +kernel
theorem dX0_byDistance_81 : decode cX0_byDistance 81 = .ok (.goto (-52), 3) := by decide +kernel
theorem dX0_byDistance_84 : decode cX0_byDistance 84 = .ok (.iload_n 3, 1) := by decide +kernel
theorem dX0_byDistance_85 : decode cX0_byDistance 85 = .ok (.ireturn, 1) := by decide +kernel
theorem dX0_pickOfStratum_0 : decode cX0_pickOfStratum 0 = .ok (.iconst 0, 1) := by decide +kernel
theorem dX0_pickOfStratum_1 : decode cX0_pickOfStratum 1 = .ok (.istore_n 2, 1) := by decide +kernel
theorem dX0_pickOfStratum_2 : decode cX0_pickOfStratum 2 = .ok (.iload_n 2, 1) := by decide +kernel
theorem dX0_pickOfStratum_3 : decode cX0_pickOfStratum 3 = .ok (.iconst 4, 1) := by decide +kernel
theorem dX0_pickOfStratum_4 : decode cX0_pickOfStratum 4 = .ok (.if_icmp .ge 55, 3) := by decide +kernel
theorem dX0_pickOfStratum_7 : decode cX0_pickOfStratum 7 = .ok (.aload_n 0, 1) := by decide +kernel
theorem dX0_pickOfStratum_8 : decode cX0_pickOfStratum 8 = .ok (.aload_n 1, 1) := by decide +kernel
theorem dX0_pickOfStratum_9 : decode cX0_pickOfStratum 9 = .ok (.iload_n 2, 1) := by decide +kernel
theorem dX0_pickOfStratum_10 : decode cX0_pickOfStratum 10 = .ok (.iconst 0, 1) := by decide +kernel
theorem dX0_pickOfStratum_11 : decode cX0_pickOfStratum 11 = .ok (.invokevirtual 104, 3) := by decide +kernel
theorem dX0_pickOfStratum_14 : decode cX0_pickOfStratum 14 = .ok (.istore_n 3, 1) := by decide +kernel
theorem dX0_pickOfStratum_15 : decode cX0_pickOfStratum 15 = .ok (.iload_n 3, 1) := by decide +kernel
theorem dX0_pickOfStratum_16 : decode cX0_pickOfStratum 16 = .ok (.iconst (-1), 1) := by decide +kernel
theorem dX0_pickOfStratum_17 : decode cX0_pickOfStratum 17 = .ok (.if_icmp .ne 7, 3) := by decide +kernel
theorem dX0_pickOfStratum_20 : decode cX0_pickOfStratum 20 = .ok (.iconst (-1), 1) := by decide +kernel
theorem dX0_pickOfStratum_21 : decode cX0_pickOfStratum 21 = .ok (.goto 12, 3) := by decide +kernel
theorem dX0_pickOfStratum_24 : decode cX0_pickOfStratum 24 = .ok (.aload_n 0, 1) := by decide +kernel
theorem dX0_pickOfStratum_25 : decode cX0_pickOfStratum 25 = .ok (.aload_n 1, 1) := by decide +kernel
theorem dX0_pickOfStratum_26 : decode cX0_pickOfStratum 26 = .ok (.iload_n 2, 1) := by decide +kernel
theorem dX0_pickOfStratum_27 : decode cX0_pickOfStratum 27 = .ok (.iload_n 3, 1) := by decide +kernel
theorem dX0_pickOfStratum_28 : decode cX0_pickOfStratum 28 = .ok (.iconst 1, 1) := by decide +kernel
theorem dX0_pickOfStratum_29 : decode cX0_pickOfStratum 29 = .ok (.iadd, 1) := by decide +kernel
theorem dX0_pickOfStratum_30 : decode cX0_pickOfStratum 30 = .ok (.invokevirtual 104, 3) := by decide +kernel
theorem dX0_pickOfStratum_33 : decode cX0_pickOfStratum 33 = .ok (.istore 4, 2) := by decide +kernel
theorem dX0_pickOfStratum_35 : decode cX0_pickOfStratum 35 = .ok (.iload 4, 2) := by decide +kernel
theorem dX0_pickOfStratum_37 : decode cX0_pickOfStratum 37 = .ok (.iconst (-1), 1) := by decide +kernel
theorem dX0_pickOfStratum_38 : decode cX0_pickOfStratum 38 = .ok (.if_icmp .eq 15, 3) := by decide +kernel
theorem dX0_pickOfStratum_41 : decode cX0_pickOfStratum 41 = .ok (.aload_n 0, 1) := by decide +kernel
theorem dX0_pickOfStratum_42 : decode cX0_pickOfStratum 42 = .ok (.iload_n 3, 1) := by decide +kernel
theorem dX0_pickOfStratum_43 : decode cX0_pickOfStratum 43 = .ok (.putfield 85, 3) := by decide +kernel
theorem dX0_pickOfStratum_46 : decode cX0_pickOfStratum 46 = .ok (.aload_n 0, 1) := by decide +kernel
theorem dX0_pickOfStratum_47 : decode cX0_pickOfStratum 47 = .ok (.iload 4, 2) := by decide +kernel
theorem dX0_pickOfStratum_49 : decode cX0_pickOfStratum 49 = .ok (.putfield 88, 3) := by decide +kernel
theorem dX0_pickOfStratum_52 : decode cX0_pickOfStratum 52 = .ok (.return_, 1) := by decide +kernel
theorem dX0_pickOfStratum_53 : decode cX0_pickOfStratum 53 = .ok (.iinc 2 1, 3) := by decide +kernel
theorem dX0_pickOfStratum_56 : decode cX0_pickOfStratum 56 = .ok (.goto (-54), 3) := by decide +kernel
theorem dX0_pickOfStratum_59 : decode cX0_pickOfStratum 59 = .ok (.return_, 1) := by decide +kernel
theorem dX0_openOfStratum_0 : decode cX0_openOfStratum 0 = .ok (.iload_n 3, 1) := by decide +kernel
theorem dX0_openOfStratum_1 : decode cX0_openOfStratum 1 = .ok (.istore 4, 2) := by decide +kernel
theorem dX0_openOfStratum_3 : decode cX0_openOfStratum 3 = .ok (.iload 4, 2) := by decide +kernel
theorem dX0_openOfStratum_5 : decode cX0_openOfStratum 5 = .ok (.bipush 12, 2) := by decide +kernel
theorem dX0_openOfStratum_7 : decode cX0_openOfStratum 7 = .ok (.if_icmp .ge 32, 3) := by decide +kernel
theorem dX0_openOfStratum_10 : decode cX0_openOfStratum 10 = .ok (.aload_n 0, 1) := by decide +kernel
theorem dX0_openOfStratum_11 : decode cX0_openOfStratum 11 = .ok (.iload 4, 2) := by decide +kernel
theorem dX0_openOfStratum_13 : decode cX0_openOfStratum 13 = .ok (.invokevirtual 77, 3) := by decide +kernel
theorem dX0_openOfStratum_16 : decode cX0_openOfStratum 16 = .ok (.ifCond .eq 17, 3) := by decide +kernel
theorem dX0_openOfStratum_19 : decode cX0_openOfStratum 19 = .ok (.aload_n 1, 1) := by decide +kernel
theorem dX0_openOfStratum_20 : decode cX0_openOfStratum 20 = .ok (.iload 4, 2) := by decide +kernel
theorem dX0_openOfStratum_22 : decode cX0_openOfStratum 22 = .ok (.iconst 2, 1) := by decide +kernel
theorem dX0_openOfStratum_23 : decode cX0_openOfStratum 23 = .ok (.invokevirtual 71, 3) := by decide +kernel
theorem dX0_openOfStratum_26 : decode cX0_openOfStratum 26 = .ok (.iload_n 2, 1) := by decide +kernel
theorem dX0_openOfStratum_27 : decode cX0_openOfStratum 27 = .ok (.if_icmp .ne 6, 3) := by decide +kernel
theorem dX0_openOfStratum_30 : decode cX0_openOfStratum 30 = .ok (.iload 4, 2) := by decide +kernel
theorem dX0_openOfStratum_32 : decode cX0_openOfStratum 32 = .ok (.ireturn, 1) := by decide +kernel
theorem dX0_openOfStratum_33 : decode cX0_openOfStratum 33 = .ok (.iinc 4 1, 3) := by decide +kernel
theorem dX0_openOfStratum_36 : decode cX0_openOfStratum 36 = .ok (.goto (-33), 3) := by decide +kernel
theorem dX0_openOfStratum_39 : decode cX0_openOfStratum 39 = .ok (.iconst (-1), 1) := by decide +kernel
theorem dX0_openOfStratum_40 : decode cX0_openOfStratum 40 = .ok (.ireturn, 1) := by decide +kernel
theorem dX0_pickByChance_0 : decode cX0_pickByChance 0 = .ok (.aload_n 0, 1) := by decide +kernel
theorem dX0_pickByChance_1 : decode cX0_pickByChance 1 = .ok (.aload_n 0, 1) := by decide +kernel
theorem dX0_pickByChance_2 : decode cX0_pickByChance 2 = .ok (.iconst (-1), 1) := by decide +kernel
theorem dX0_pickByChance_3 : decode cX0_pickByChance 3 = .ok (.invokevirtual 108, 3) := by decide +kernel
theorem dX0_pickByChance_6 : decode cX0_pickByChance 6 = .ok (.putfield 85, 3) := by decide +kernel
theorem dX0_pickByChance_9 : decode cX0_pickByChance 9 = .ok (.aload_n 0, 1) := by decide +kernel
theorem dX0_pickByChance_10 : decode cX0_pickByChance 10 = .ok (.aload_n 0, 1) := by decide +kernel
theorem dX0_pickByChance_11 : decode cX0_pickByChance 11 = .ok (.aload_n 0, 1) := by decide +kernel
theorem dX0_pickByChance_12 : decode cX0_pickByChance 12 = .ok (.getfield 85, 3) := by decide +kernel
theorem dX0_pickByChance_15 : decode cX0_pickByChance 15 = .ok (.invokevirtual 108, 3) := by decide +kernel
theorem dX0_pickByChance_18 : decode cX0_pickByChance 18 = .ok (.putfield 88, 3) := by decide +kernel
theorem dX0_pickByChance_21 : decode cX0_pickByChance 21 = .ok (.return_, 1) := by decide +kernel
theorem dX0_mostLeftBut_0 : decode cX0_mostLeftBut 0 = .ok (.iconst (-1), 1) := by decide +kernel
theorem dX0_mostLeftBut_1 : decode cX0_mostLeftBut 1 = .ok (.istore_n 2, 1) := by decide +kernel
theorem dX0_mostLeftBut_2 : decode cX0_mostLeftBut 2 = .ok (.iconst 0, 1) := by decide +kernel
theorem dX0_mostLeftBut_3 : decode cX0_mostLeftBut 3 = .ok (.istore_n 3, 1) := by decide +kernel
theorem dX0_mostLeftBut_4 : decode cX0_mostLeftBut 4 = .ok (.iconst 0, 1) := by decide +kernel
theorem dX0_mostLeftBut_5 : decode cX0_mostLeftBut 5 = .ok (.istore 4, 2) := by decide +kernel
theorem dX0_mostLeftBut_7 : decode cX0_mostLeftBut 7 = .ok (.iload 4, 2) := by decide +kernel
theorem dX0_mostLeftBut_9 : decode cX0_mostLeftBut 9 = .ok (.bipush 12, 2) := by decide +kernel
theorem dX0_mostLeftBut_11 : decode cX0_mostLeftBut 11 = .ok (.if_icmp .ge 49, 3) := by decide +kernel
theorem dX0_mostLeftBut_14 : decode cX0_mostLeftBut 14 = .ok (.iload 4, 2) := by decide +kernel
theorem dX0_mostLeftBut_16 : decode cX0_mostLeftBut 16 = .ok (.iload_n 1, 1) := by decide +kernel
theorem dX0_mostLeftBut_17 : decode cX0_mostLeftBut 17 = .ok (.if_icmp .eq 37, 3) := by decide +kernel
theorem dX0_mostLeftBut_20 : decode cX0_mostLeftBut 20 = .ok (.aload_n 0, 1) := by decide +kernel
theorem dX0_mostLeftBut_21 : decode cX0_mostLeftBut 21 = .ok (.getfield 9, 3) := by decide +kernel
theorem dX0_mostLeftBut_24 : decode cX0_mostLeftBut 24 = .ok (.iload 4, 2) := by decide +kernel
theorem dX0_mostLeftBut_26 : decode cX0_mostLeftBut 26 = .ok (.iaload, 1) := by decide +kernel
theorem dX0_mostLeftBut_27 : decode cX0_mostLeftBut 27 = .ok (.bipush 12, 2) := by decide +kernel
theorem dX0_mostLeftBut_29 : decode cX0_mostLeftBut 29 = .ok (.if_icmp .ge 25, 3) := by decide +kernel
theorem dX0_mostLeftBut_32 : decode cX0_mostLeftBut 32 = .ok (.aload_n 0, 1) := by decide +kernel
theorem dX0_mostLeftBut_33 : decode cX0_mostLeftBut 33 = .ok (.getfield 9, 3) := by decide +kernel
theorem dX0_mostLeftBut_36 : decode cX0_mostLeftBut 36 = .ok (.iload 4, 2) := by decide +kernel
theorem dX0_mostLeftBut_38 : decode cX0_mostLeftBut 38 = .ok (.iaload, 1) := by decide +kernel
theorem dX0_mostLeftBut_39 : decode cX0_mostLeftBut 39 = .ok (.iload_n 3, 1) := by decide +kernel
theorem dX0_mostLeftBut_40 : decode cX0_mostLeftBut 40 = .ok (.if_icmp .le 14, 3) := by decide +kernel
theorem dX0_mostLeftBut_43 : decode cX0_mostLeftBut 43 = .ok (.iload 4, 2) := by decide +kernel
theorem dX0_mostLeftBut_45 : decode cX0_mostLeftBut 45 = .ok (.istore_n 2, 1) := by decide +kernel
theorem dX0_mostLeftBut_46 : decode cX0_mostLeftBut 46 = .ok (.aload_n 0, 1) := by decide +kernel
theorem dX0_mostLeftBut_47 : decode cX0_mostLeftBut 47 = .ok (.getfield 9, 3) := by decide +kernel
theorem dX0_mostLeftBut_50 : decode cX0_mostLeftBut 50 = .ok (.iload 4, 2) := by decide +kernel
theorem dX0_mostLeftBut_52 : decode cX0_mostLeftBut 52 = .ok (.iaload, 1) := by decide +kernel
theorem dX0_mostLeftBut_53 : decode cX0_mostLeftBut 53 = .ok (.istore_n 3, 1) := by decide +kernel
theorem dX0_mostLeftBut_54 : decode cX0_mostLeftBut 54 = .ok (.iinc 4 1, 3) := by decide +kernel
theorem dX0_mostLeftBut_57 : decode cX0_mostLeftBut 57 = .ok (.goto (-50), 3) := by decide +kernel
theorem dX0_mostLeftBut_60 : decode cX0_mostLeftBut 60 = .ok (.iload_n 2, 1) := by decide +kernel
theorem dX0_mostLeftBut_61 : decode cX0_mostLeftBut 61 = .ok (.ireturn, 1) := by decide +kernel
theorem dX0_leftOfBoth_0 : decode cX0_leftOfBoth 0 = .ok (.aload_n 0, 1) := by decide +kernel
theorem dX0_leftOfBoth_1 : decode cX0_leftOfBoth 1 = .ok (.aload_n 0, 1) := by decide +kernel
theorem dX0_leftOfBoth_2 : decode cX0_leftOfBoth 2 = .ok (.getfield 85, 3) := by decide +kernel
theorem dX0_leftOfBoth_5 : decode cX0_leftOfBoth 5 = .ok (.invokevirtual 111, 3) := by decide +kernel
theorem dX0_leftOfBoth_8 : decode cX0_leftOfBoth 8 = .ok (.aload_n 0, 1) := by decide +kernel
theorem dX0_leftOfBoth_9 : decode cX0_leftOfBoth 9 = .ok (.aload_n 0, 1) := by decide +kernel
theorem dX0_leftOfBoth_10 : decode cX0_leftOfBoth 10 = .ok (.getfield 88, 3) := by decide +kernel
theorem dX0_leftOfBoth_13 : decode cX0_leftOfBoth 13 = .ok (.invokevirtual 111, 3) := by decide +kernel
theorem dX0_leftOfBoth_16 : decode cX0_leftOfBoth 16 = .ok (.iadd, 1) := by decide +kernel
theorem dX0_leftOfBoth_17 : decode cX0_leftOfBoth 17 = .ok (.ireturn, 1) := by decide +kernel
theorem dX0_chancesOfBoth_0 : decode cX0_chancesOfBoth 0 = .ok (.aload_n 0, 1) := by decide +kernel
theorem dX0_chancesOfBoth_1 : decode cX0_chancesOfBoth 1 = .ok (.getfield 88, 3) := by decide +kernel
theorem dX0_chancesOfBoth_4 : decode cX0_chancesOfBoth 4 = .ok (.iconst (-1), 1) := by decide +kernel
theorem dX0_chancesOfBoth_5 : decode cX0_chancesOfBoth 5 = .ok (.if_icmp .ne 6, 3) := by decide +kernel
theorem dX0_chancesOfBoth_8 : decode cX0_chancesOfBoth 8 = .ok (.bipush 12, 2) := by decide +kernel
theorem dX0_chancesOfBoth_10 : decode cX0_chancesOfBoth 10 = .ok (.ireturn, 1) := by decide +kernel
theorem dX0_chancesOfBoth_11 : decode cX0_chancesOfBoth 11 = .ok (.aload_n 0, 1) := by decide +kernel
theorem dX0_chancesOfBoth_12 : decode cX0_chancesOfBoth 12 = .ok (.invokevirtual 114, 3) := by decide +kernel
theorem dX0_chancesOfBoth_15 : decode cX0_chancesOfBoth 15 = .ok (.istore_n 1, 1) := by decide +kernel
theorem dX0_chancesOfBoth_16 : decode cX0_chancesOfBoth 16 = .ok (.iload_n 1, 1) := by decide +kernel
theorem dX0_chancesOfBoth_17 : decode cX0_chancesOfBoth 17 = .ok (.bipush 12, 2) := by decide +kernel
theorem dX0_chancesOfBoth_19 : decode cX0_chancesOfBoth 19 = .ok (.if_icmp .gt 7, 3) := by decide +kernel
theorem dX0_chancesOfBoth_22 : decode cX0_chancesOfBoth 22 = .ok (.iload_n 1, 1) := by decide +kernel
theorem dX0_chancesOfBoth_23 : decode cX0_chancesOfBoth 23 = .ok (.goto 7, 3) := by decide +kernel
theorem dX0_chancesOfBoth_26 : decode cX0_chancesOfBoth 26 = .ok (.bipush 24, 2) := by decide +kernel
theorem dX0_chancesOfBoth_28 : decode cX0_chancesOfBoth 28 = .ok (.iload_n 1, 1) := by decide +kernel
theorem dX0_chancesOfBoth_29 : decode cX0_chancesOfBoth 29 = .ok (.isub, 1) := by decide +kernel
theorem dX0_chancesOfBoth_30 : decode cX0_chancesOfBoth 30 = .ok (.ireturn, 1) := by decide +kernel
theorem dX0_chancesOfFirst_0 : decode cX0_chancesOfFirst 0 = .ok (.aload_n 0, 1) := by decide +kernel
theorem dX0_chancesOfFirst_1 : decode cX0_chancesOfFirst 1 = .ok (.invokevirtual 114, 3) := by decide +kernel
theorem dX0_chancesOfFirst_4 : decode cX0_chancesOfFirst 4 = .ok (.bipush 12, 2) := by decide +kernel
theorem dX0_chancesOfFirst_6 : decode cX0_chancesOfFirst 6 = .ok (.if_icmp .gt 14, 3) := by decide +kernel
theorem dX0_chancesOfFirst_9 : decode cX0_chancesOfFirst 9 = .ok (.aload_n 0, 1) := by decide +kernel
theorem dX0_chancesOfFirst_10 : decode cX0_chancesOfFirst 10 = .ok (.aload_n 0, 1) := by decide +kernel
theorem dX0_chancesOfFirst_11 : decode cX0_chancesOfFirst 11 = .ok (.getfield 85, 3) := by decide +kernel
theorem dX0_chancesOfFirst_14 : decode cX0_chancesOfFirst 14 = .ok (.invokevirtual 111, 3) := by decide +kernel
theorem dX0_chancesOfFirst_17 : decode cX0_chancesOfFirst 17 = .ok (.goto 14, 3) := by decide +kernel
theorem dX0_chancesOfFirst_20 : decode cX0_chancesOfFirst 20 = .ok (.bipush 12, 2) := by decide +kernel
theorem dX0_chancesOfFirst_22 : decode cX0_chancesOfFirst 22 = .ok (.aload_n 0, 1) := by decide +kernel
theorem dX0_chancesOfFirst_23 : decode cX0_chancesOfFirst 23 = .ok (.aload_n 0, 1) := by decide +kernel
theorem dX0_chancesOfFirst_24 : decode cX0_chancesOfFirst 24 = .ok (.getfield 88, 3) := by decide +kernel
theorem dX0_chancesOfFirst_27 : decode cX0_chancesOfFirst 27 = .ok (.invokevirtual 111, 3) := by decide +kernel
theorem dX0_chancesOfFirst_30 : decode cX0_chancesOfFirst 30 = .ok (.isub, 1) := by decide +kernel
theorem dX0_chancesOfFirst_31 : decode cX0_chancesOfFirst 31 = .ok (.ireturn, 1) := by decide +kernel
theorem dX0_write_0 : decode cX0_write 0 = .ok (.aload_n 0, 1) := by decide +kernel
theorem dX0_write_1 : decode cX0_write 1 = .ok (.getfield 62, 3) := by decide +kernel
theorem dX0_write_4 : decode cX0_write 4 = .ok (.bipush 12, 2) := by decide +kernel
theorem dX0_write_6 : decode cX0_write 6 = .ok (.if_icmp .lt 4, 3) := by decide +kernel
theorem dX0_write_9 : decode cX0_write 9 = .ok (.return_, 1) := by decide +kernel
theorem dX0_write_10 : decode cX0_write 10 = .ok (.aload_n 0, 1) := by decide +kernel
theorem dX0_write_11 : decode cX0_write 11 = .ok (.getfield 15, 3) := by decide +kernel
theorem dX0_write_14 : decode cX0_write 14 = .ok (.aload_n 0, 1) := by decide +kernel
theorem dX0_write_15 : decode cX0_write 15 = .ok (.getfield 62, 3) := by decide +kernel
theorem dX0_write_18 : decode cX0_write 18 = .ok (.aload_n 0, 1) := by decide +kernel
theorem dX0_write_19 : decode cX0_write 19 = .ok (.getfield 85, 3) := by decide +kernel
theorem dX0_write_22 : decode cX0_write 22 = .ok (.iastore, 1) := by decide +kernel
theorem dX0_write_23 : decode cX0_write 23 = .ok (.aload_n 0, 1) := by decide +kernel
theorem dX0_write_24 : decode cX0_write 24 = .ok (.getfield 18, 3) := by decide +kernel
theorem dX0_write_27 : decode cX0_write 27 = .ok (.aload_n 0, 1) := by decide +kernel
theorem dX0_write_28 : decode cX0_write 28 = .ok (.getfield 62, 3) := by decide +kernel
theorem dX0_write_31 : decode cX0_write 31 = .ok (.aload_n 0, 1) := by decide +kernel
theorem dX0_write_32 : decode cX0_write 32 = .ok (.getfield 88, 3) := by decide +kernel
theorem dX0_write_35 : decode cX0_write 35 = .ok (.iastore, 1) := by decide +kernel
theorem dX0_write_36 : decode cX0_write 36 = .ok (.aload_n 0, 1) := by decide +kernel
theorem dX0_write_37 : decode cX0_write 37 = .ok (.getfield 21, 3) := by decide +kernel
theorem dX0_write_40 : decode cX0_write 40 = .ok (.aload_n 0, 1) := by decide +kernel
theorem dX0_write_41 : decode cX0_write 41 = .ok (.getfield 62, 3) := by decide +kernel
theorem dX0_write_44 : decode cX0_write 44 = .ok (.iload_n 1, 1) := by decide +kernel
theorem dX0_write_45 : decode cX0_write 45 = .ok (.ifCond .eq 10, 3) := by decide +kernel
theorem dX0_write_48 : decode cX0_write 48 = .ok (.aload_n 0, 1) := by decide +kernel
theorem dX0_write_49 : decode cX0_write 49 = .ok (.getfield 85, 3) := by decide +kernel
theorem dX0_write_52 : decode cX0_write 52 = .ok (.goto 7, 3) := by decide +kernel
theorem dX0_write_55 : decode cX0_write 55 = .ok (.aload_n 0, 1) := by decide +kernel
theorem dX0_write_56 : decode cX0_write 56 = .ok (.getfield 88, 3) := by decide +kernel
theorem dX0_write_59 : decode cX0_write 59 = .ok (.iastore, 1) := by decide +kernel
theorem dX0_write_60 : decode cX0_write 60 = .ok (.aload_n 0, 1) := by decide +kernel
theorem dX0_write_61 : decode cX0_write 61 = .ok (.dup, 1) := by decide +kernel
theorem dX0_write_62 : decode cX0_write 62 = .ok (.getfield 62, 3) := by decide +kernel
theorem dX0_write_65 : decode cX0_write 65 = .ok (.iconst 1, 1) := by decide +kernel
theorem dX0_write_66 : decode cX0_write 66 = .ok (.iadd, 1) := by decide +kernel
theorem dX0_write_67 : decode cX0_write 67 = .ok (.putfield 62, 3) := by decide +kernel
theorem dX0_write_70 : decode cX0_write 70 = .ok (.aload_n 0, 1) := by decide +kernel
theorem dX0_write_71 : decode cX0_write 71 = .ok (.getfield 88, 3) := by decide +kernel
theorem dX0_write_74 : decode cX0_write 74 = .ok (.iconst (-1), 1) := by decide +kernel
theorem dX0_write_75 : decode cX0_write 75 = .ok (.if_icmp .eq 25, 3) := by decide +kernel
theorem dX0_write_78 : decode cX0_write 78 = .ok (.aload_n 0, 1) := by decide +kernel
theorem dX0_write_79 : decode cX0_write 79 = .ok (.invokevirtual 114, 3) := by decide +kernel
theorem dX0_write_82 : decode cX0_write 82 = .ok (.bipush 12, 2) := by decide +kernel
theorem dX0_write_84 : decode cX0_write 84 = .ok (.if_icmp .gt 16, 3) := by decide +kernel
theorem dX0_write_87 : decode cX0_write 87 = .ok (.aload_n 0, 1) := by decide +kernel
theorem dX0_write_88 : decode cX0_write 88 = .ok (.dup, 1) := by decide +kernel
theorem dX0_write_89 : decode cX0_write 89 = .ok (.getfield 65, 3) := by decide +kernel
theorem dX0_write_92 : decode cX0_write 92 = .ok (.iconst 1, 1) := by decide +kernel
theorem dX0_write_93 : decode cX0_write 93 = .ok (.iadd, 1) := by decide +kernel
theorem dX0_write_94 : decode cX0_write 94 = .ok (.putfield 65, 3) := by decide +kernel
theorem dX0_write_97 : decode cX0_write 97 = .ok (.goto 21, 3) := by decide +kernel
theorem dX0_write_100 : decode cX0_write 100 = .ok (.aload_n 0, 1) := by decide +kernel
theorem dX0_write_101 : decode cX0_write 101 = .ok (.getfield 88, 3) := by decide +kernel
theorem dX0_write_104 : decode cX0_write 104 = .ok (.iconst (-1), 1) := by decide +kernel
theorem dX0_write_105 : decode cX0_write 105 = .ok (.if_icmp .eq 13, 3) := by decide +kernel
theorem dX0_write_108 : decode cX0_write 108 = .ok (.aload_n 0, 1) := by decide +kernel
theorem dX0_write_109 : decode cX0_write 109 = .ok (.dup, 1) := by decide +kernel
theorem dX0_write_110 : decode cX0_write 110 = .ok (.getfield 68, 3) := by decide +kernel
theorem dX0_write_113 : decode cX0_write 113 = .ok (.iconst 1, 1) := by decide +kernel
theorem dX0_write_114 : decode cX0_write 114 = .ok (.iadd, 1) := by decide +kernel
theorem dX0_write_115 : decode cX0_write 115 = .ok (.putfield 68, 3) := by decide +kernel
theorem dX0_write_118 : decode cX0_write 118 = .ok (.return_, 1) := by decide +kernel
theorem dX0_settle_0 : decode cX0_settle 0 = .ok (.aload_n 0, 1) := by decide +kernel
theorem dX0_settle_1 : decode cX0_settle 1 = .ok (.getfield 88, 3) := by decide +kernel
theorem dX0_settle_4 : decode cX0_settle 4 = .ok (.iconst (-1), 1) := by decide +kernel
theorem dX0_settle_5 : decode cX0_settle 5 = .ok (.if_icmp .ne 22, 3) := by decide +kernel
theorem dX0_settle_8 : decode cX0_settle 8 = .ok (.aload_n 0, 1) := by decide +kernel
theorem dX0_settle_9 : decode cX0_settle 9 = .ok (.aload_n 0, 1) := by decide +kernel
theorem dX0_settle_10 : decode cX0_settle 10 = .ok (.getfield 85, 3) := by decide +kernel
theorem dX0_settle_13 : decode cX0_settle 13 = .ok (.iload_n 1, 1) := by decide +kernel
theorem dX0_settle_14 : decode cX0_settle 14 = .ok (.ifCond .eq 8, 3) := by decide +kernel
theorem dX0_settle_17 : decode cX0_settle 17 = .ok (.bipush 12, 2) := by decide +kernel
theorem dX0_settle_19 : decode cX0_settle 19 = .ok (.goto 4, 3) := by decide +kernel
theorem dX0_settle_22 : decode cX0_settle 22 = .ok (.iconst 0, 1) := by decide +kernel
theorem dX0_settle_23 : decode cX0_settle 23 = .ok (.invokevirtual 117, 3) := by decide +kernel
theorem dX0_settle_26 : decode cX0_settle 26 = .ok (.return_, 1) := by decide +kernel
theorem dX0_settle_27 : decode cX0_settle 27 = .ok (.aload_n 0, 1) := by decide +kernel
theorem dX0_settle_28 : decode cX0_settle 28 = .ok (.invokevirtual 114, 3) := by decide +kernel
theorem dX0_settle_31 : decode cX0_settle 31 = .ok (.istore_n 2, 1) := by decide +kernel
theorem dX0_settle_32 : decode cX0_settle 32 = .ok (.iload_n 2, 1) := by decide +kernel
theorem dX0_settle_33 : decode cX0_settle 33 = .ok (.bipush 12, 2) := by decide +kernel
theorem dX0_settle_35 : decode cX0_settle 35 = .ok (.invokestatic 121, 3) := by decide +kernel
theorem dX0_settle_38 : decode cX0_settle 38 = .ok (.istore_n 3, 1) := by decide +kernel
theorem dX0_settle_39 : decode cX0_settle 39 = .ok (.aload_n 0, 1) := by decide +kernel
theorem dX0_settle_40 : decode cX0_settle 40 = .ok (.aload_n 0, 1) := by decide +kernel
theorem dX0_settle_41 : decode cX0_settle 41 = .ok (.getfield 85, 3) := by decide +kernel
theorem dX0_settle_44 : decode cX0_settle 44 = .ok (.iload_n 1, 1) := by decide +kernel
theorem dX0_settle_45 : decode cX0_settle 45 = .ok (.ifCond .eq 7, 3) := by decide +kernel
theorem dX0_settle_48 : decode cX0_settle 48 = .ok (.iload_n 3, 1) := by decide +kernel
theorem dX0_settle_49 : decode cX0_settle 49 = .ok (.goto 6, 3) := by decide +kernel
theorem dX0_settle_52 : decode cX0_settle 52 = .ok (.iload_n 2, 1) := by decide +kernel
theorem dX0_settle_53 : decode cX0_settle 53 = .ok (.iload_n 3, 1) := by decide +kernel
theorem dX0_settle_54 : decode cX0_settle 54 = .ok (.isub, 1) := by decide +kernel
theorem dX0_settle_55 : decode cX0_settle 55 = .ok (.invokevirtual 117, 3) := by decide +kernel
theorem dX0_settle_58 : decode cX0_settle 58 = .ok (.aload_n 0, 1) := by decide +kernel
theorem dX0_settle_59 : decode cX0_settle 59 = .ok (.aload_n 0, 1) := by decide +kernel
theorem dX0_settle_60 : decode cX0_settle 60 = .ok (.getfield 88, 3) := by decide +kernel
theorem dX0_settle_63 : decode cX0_settle 63 = .ok (.iload_n 1, 1) := by decide +kernel
theorem dX0_settle_64 : decode cX0_settle 64 = .ok (.ifCond .eq 9, 3) := by decide +kernel
theorem dX0_settle_67 : decode cX0_settle 67 = .ok (.iload_n 2, 1) := by decide +kernel
theorem dX0_settle_68 : decode cX0_settle 68 = .ok (.iload_n 3, 1) := by decide +kernel
theorem dX0_settle_69 : decode cX0_settle 69 = .ok (.isub, 1) := by decide +kernel
theorem dX0_settle_70 : decode cX0_settle 70 = .ok (.goto 4, 3) := by decide +kernel
theorem dX0_settle_73 : decode cX0_settle 73 = .ok (.iload_n 3, 1) := by decide +kernel
theorem dX0_settle_74 : decode cX0_settle 74 = .ok (.invokevirtual 117, 3) := by decide +kernel
theorem dX0_settle_77 : decode cX0_settle 77 = .ok (.return_, 1) := by decide +kernel
theorem dX0_restore_0 : decode cX0_restore 0 = .ok (.aload_n 0, 1) := by decide +kernel
theorem dX0_restore_1 : decode cX0_restore 1 = .ok (.iload_n 1, 1) := by decide +kernel
theorem dX0_restore_2 : decode cX0_restore 2 = .ok (.putfield 85, 3) := by decide +kernel
theorem dX0_restore_5 : decode cX0_restore 5 = .ok (.aload_n 0, 1) := by decide +kernel
theorem dX0_restore_6 : decode cX0_restore 6 = .ok (.iload_n 2, 1) := by decide +kernel
theorem dX0_restore_7 : decode cX0_restore 7 = .ok (.putfield 88, 3) := by decide +kernel
theorem dX0_restore_10 : decode cX0_restore 10 = .ok (.aload_n 0, 1) := by decide +kernel
theorem dX0_restore_11 : decode cX0_restore 11 = .ok (.iload_n 1, 1) := by decide +kernel
theorem dX0_restore_12 : decode cX0_restore 12 = .ok (.iload_n 3, 1) := by decide +kernel
theorem dX0_restore_13 : decode cX0_restore 13 = .ok (.invokevirtual 117, 3) := by decide +kernel
theorem dX0_restore_16 : decode cX0_restore 16 = .ok (.aload_n 0, 1) := by decide +kernel
theorem dX0_restore_17 : decode cX0_restore 17 = .ok (.iload_n 2, 1) := by decide +kernel
theorem dX0_restore_18 : decode cX0_restore 18 = .ok (.iload 4, 2) := by decide +kernel
theorem dX0_restore_20 : decode cX0_restore 20 = .ok (.invokevirtual 117, 3) := by decide +kernel
theorem dX0_restore_23 : decode cX0_restore 23 = .ok (.return_, 1) := by decide +kernel
theorem dX0_wholeOnes_0 : decode cX0_wholeOnes 0 = .ok (.iconst 0, 1) := by decide +kernel
theorem dX0_wholeOnes_1 : decode cX0_wholeOnes 1 = .ok (.istore_n 1, 1) := by decide +kernel
theorem dX0_wholeOnes_2 : decode cX0_wholeOnes 2 = .ok (.iconst 0, 1) := by decide +kernel
theorem dX0_wholeOnes_3 : decode cX0_wholeOnes 3 = .ok (.istore_n 2, 1) := by decide +kernel
theorem dX0_wholeOnes_4 : decode cX0_wholeOnes 4 = .ok (.iload_n 2, 1) := by decide +kernel
theorem dX0_wholeOnes_5 : decode cX0_wholeOnes 5 = .ok (.bipush 12, 2) := by decide +kernel
theorem dX0_wholeOnes_7 : decode cX0_wholeOnes 7 = .ok (.if_icmp .ge 26, 3) := by decide +kernel
theorem dX0_wholeOnes_10 : decode cX0_wholeOnes 10 = .ok (.aload_n 0, 1) := by decide +kernel
theorem dX0_wholeOnes_11 : decode cX0_wholeOnes 11 = .ok (.getfield 9, 3) := by decide +kernel
theorem dX0_wholeOnes_14 : decode cX0_wholeOnes 14 = .ok (.iload_n 2, 1) := by decide +kernel
theorem dX0_wholeOnes_15 : decode cX0_wholeOnes 15 = .ok (.iaload, 1) := by decide +kernel
theorem dX0_wholeOnes_16 : decode cX0_wholeOnes 16 = .ok (.bipush 12, 2) := by decide +kernel
theorem dX0_wholeOnes_18 : decode cX0_wholeOnes 18 = .ok (.if_icmp .ne 9, 3) := by decide +kernel
theorem dX0_wholeOnes_21 : decode cX0_wholeOnes 21 = .ok (.iload_n 1, 1) := by decide +kernel
theorem dX0_wholeOnes_22 : decode cX0_wholeOnes 22 = .ok (.iconst 1, 1) := by decide +kernel
theorem dX0_wholeOnes_23 : decode cX0_wholeOnes 23 = .ok (.iload_n 2, 1) := by decide +kernel
theorem dX0_wholeOnes_24 : decode cX0_wholeOnes 24 = .ok (.ishl, 1) := by decide +kernel
theorem dX0_wholeOnes_25 : decode cX0_wholeOnes 25 = .ok (.ior, 1) := by decide +kernel
theorem dX0_wholeOnes_26 : decode cX0_wholeOnes 26 = .ok (.istore_n 1, 1) := by decide +kernel
theorem dX0_wholeOnes_27 : decode cX0_wholeOnes 27 = .ok (.iinc 2 1, 3) := by decide +kernel
theorem dX0_wholeOnes_30 : decode cX0_wholeOnes 30 = .ok (.goto (-26), 3) := by decide +kernel
theorem dX0_wholeOnes_33 : decode cX0_wholeOnes 33 = .ok (.iload_n 1, 1) := by decide +kernel
theorem dX0_wholeOnes_34 : decode cX0_wholeOnes 34 = .ok (.ireturn, 1) := by decide +kernel
theorem dX1_init_0 : decode cX1_init 0 = .ok (.aload_n 0, 1) := by decide +kernel
theorem dX1_init_1 : decode cX1_init 1 = .ok (.invokespecial 3, 3) := by decide +kernel
theorem dX1_init_4 : decode cX1_init 4 = .ok (.aload_n 0, 1) := by decide +kernel
theorem dX1_init_5 : decode cX1_init 5 = .ok (.bipush 64, 2) := by decide +kernel
theorem dX1_init_7 : decode cX1_init 7 = .ok (.newarray .long, 2) := by decide +kernel
theorem dX1_init_9 : decode cX1_init 9 = .ok (.putfield 11, 3) := by decide +kernel
theorem dX1_init_12 : decode cX1_init 12 = .ok (.aload_n 0, 1) := by decide +kernel
theorem dX1_init_13 : decode cX1_init 13 = .ok (.iconst (-1), 1) := by decide +kernel
theorem dX1_init_14 : decode cX1_init 14 = .ok (.putfield 15, 3) := by decide +kernel
theorem dX1_init_17 : decode cX1_init 17 = .ok (.aload_n 0, 1) := by decide +kernel
theorem dX1_init_18 : decode cX1_init 18 = .ok (.iconst (-1), 1) := by decide +kernel
theorem dX1_init_19 : decode cX1_init 19 = .ok (.putfield 19, 3) := by decide +kernel
theorem dX1_init_22 : decode cX1_init 22 = .ok (.return_, 1) := by decide +kernel
theorem dX1_explore_0 : decode cX1_explore 0 = .ok (.aload_n 0, 1) := by decide +kernel
theorem dX1_explore_1 : decode cX1_explore 1 = .ok (.getfield 15, 3) := by decide +kernel
theorem dX1_explore_4 : decode cX1_explore 4 = .ok (.aload_n 1, 1) := by decide +kernel
theorem dX1_explore_5 : decode cX1_explore 5 = .ok (.getfield 22, 3) := by decide +kernel
theorem dX1_explore_8 : decode cX1_explore 8 = .ok (.if_icmp .ne 12, 3) := by decide +kernel
theorem dX1_explore_11 : decode cX1_explore 11 = .ok (.aload_n 0, 1) := by decide +kernel
theorem dX1_explore_12 : decode cX1_explore 12 = .ok (.getfield 19, 3) := by decide +kernel
theorem dX1_explore_15 : decode cX1_explore 15 = .ok (.iload_n 2, 1) := by decide +kernel
theorem dX1_explore_16 : decode cX1_explore 16 = .ok (.if_icmp .ne 4, 3) := by decide +kernel
theorem dX1_explore_19 : decode cX1_explore 19 = .ok (.return_, 1) := by decide +kernel
theorem dX1_explore_20 : decode cX1_explore 20 = .ok (.aload_n 0, 1) := by decide +kernel
theorem dX1_explore_21 : decode cX1_explore 21 = .ok (.aload_n 1, 1) := by decide +kernel
theorem dX1_explore_22 : decode cX1_explore 22 = .ok (.getfield 22, 3) := by decide +kernel
theorem dX1_explore_25 : decode cX1_explore 25 = .ok (.putfield 15, 3) := by decide +kernel
theorem dX1_explore_28 : decode cX1_explore 28 = .ok (.aload_n 0, 1) := by decide +kernel
theorem dX1_explore_29 : decode cX1_explore 29 = .ok (.iload_n 2, 1) := by decide +kernel
theorem dX1_explore_30 : decode cX1_explore 30 = .ok (.putfield 19, 3) := by decide +kernel
theorem dX1_explore_33 : decode cX1_explore 33 = .ok (.aload_n 0, 1) := by decide +kernel
theorem dX1_explore_34 : decode cX1_explore 34 = .ok (.getfield 11, 3) := by decide +kernel
theorem dX1_explore_37 : decode cX1_explore 37 = .ok (.lconst 0, 1) := by decide +kernel
theorem dX1_explore_38 : decode cX1_explore 38 = .ok (.invokestatic 27, 3) := by decide +kernel
theorem dX1_explore_41 : decode cX1_explore 41 = .ok (.aload_n 3, 1) := by decide +kernel
theorem dX1_explore_42 : decode cX1_explore 42 = .ok (.aload_n 1, 1) := by decide +kernel
theorem dX1_explore_43 : decode cX1_explore 43 = .ok (.invokevirtual 33, 3) := by decide +kernel
theorem dX1_explore_46 : decode cX1_explore 46 = .ok (.aload_n 0, 1) := by decide +kernel
theorem dX1_explore_47 : decode cX1_explore 47 = .ok (.aload_n 3, 1) := by decide +kernel
theorem dX1_explore_48 : decode cX1_explore 48 = .ok (.aload_n 1, 1) := by decide +kernel
theorem dX1_explore_49 : decode cX1_explore 49 = .ok (.iload_n 2, 1) := by decide +kernel
theorem dX1_explore_50 : decode cX1_explore 50 = .ok (.iconst 0, 1) := by decide +kernel
theorem dX1_explore_51 : decode cX1_explore 51 = .ok (.invokestatic 39, 3) := by decide +kernel
theorem dX1_explore_54 : decode cX1_explore 54 = .ok (.return_, 1) := by decide +kernel
theorem dX1_follow_0 : decode cX1_follow 0 = .ok (.iload 4, 2) := by decide +kernel
theorem dX1_follow_2 : decode cX1_follow 2 = .ok (.bipush 12, 2) := by decide +kernel
theorem dX1_follow_4 : decode cX1_follow 4 = .ok (.if_icmp .gt 12, 3) := by decide +kernel
theorem dX1_follow_7 : decode cX1_follow 7 = .ok (.aload_n 1, 1) := by decide +kernel
theorem dX1_follow_8 : decode cX1_follow 8 = .ok (.aload_n 2, 1) := by decide +kernel
theorem dX1_follow_9 : decode cX1_follow 9 = .ok (.iload_n 3, 1) := by decide +kernel
theorem dX1_follow_10 : decode cX1_follow 10 = .ok (.invokevirtual 43, 3) := by decide +kernel
theorem dX1_follow_13 : decode cX1_follow 13 = .ok (.ifCond .ne 12, 3) := by decide +kernel
theorem dX1_follow_16 : decode cX1_follow 16 = .ok (.aload_n 0, 1) := by decide +kernel
theorem dX1_follow_17 : decode cX1_follow 17 = .ok (.aload_n 1, 1) := by decide +kernel
theorem dX1_follow_18 : decode cX1_follow 18 = .ok (.invokevirtual 47, 3) := by decide +kernel
theorem dX1_follow_21 : decode cX1_follow 21 = .ok (.invokevirtual 51, 3) := by decide +kernel
theorem dX1_follow_24 : decode cX1_follow 24 = .ok (.return_, 1) := by decide +kernel
theorem dX1_follow_25 : decode cX1_follow 25 = .ok (.aload_n 1, 1) := by decide +kernel
theorem dX1_follow_26 : decode cX1_follow 26 = .ok (.getfield 55, 3) := by decide +kernel
theorem dX1_follow_29 : decode cX1_follow 29 = .ok (.istore 5, 2) := by decide +kernel
theorem dX1_follow_31 : decode cX1_follow 31 = .ok (.aload_n 1, 1) := by decide +kernel
theorem dX1_follow_32 : decode cX1_follow 32 = .ok (.getfield 58, 3) := by decide +kernel
theorem dX1_follow_35 : decode cX1_follow 35 = .ok (.istore 6, 2) := by decide +kernel
theorem dX1_follow_37 : decode cX1_follow 37 = .ok (.aload_n 1, 1) := by decide +kernel
theorem dX1_follow_38 : decode cX1_follow 38 = .ok (.iload 5, 2) := by decide +kernel
theorem dX1_follow_40 : decode cX1_follow 40 = .ok (.invokevirtual 61, 3) := by decide +kernel
theorem dX1_follow_43 : decode cX1_follow 43 = .ok (.istore 7, 2) := by decide +kernel
theorem dX1_follow_45 : decode cX1_follow 45 = .ok (.aload_n 1, 1) := by decide +kernel
theorem dX1_follow_46 : decode cX1_follow 46 = .ok (.iload 6, 2) := by decide +kernel
theorem dX1_follow_48 : decode cX1_follow 48 = .ok (.invokevirtual 61, 3) := by decide +kernel
theorem dX1_follow_51 : decode cX1_follow 51 = .ok (.istore 8, 2) := by decide +kernel
theorem dX1_follow_53 : decode cX1_follow 53 = .ok (.aload_n 1, 1) := by decide +kernel
theorem dX1_follow_54 : decode cX1_follow 54 = .ok (.iconst 1, 1) := by decide +kernel
theorem dX1_follow_55 : decode cX1_follow 55 = .ok (.invokevirtual 65, 3) := by decide +kernel
theorem dX1_follow_58 : decode cX1_follow 58 = .ok (.aload_n 0, 1) := by decide +kernel
theorem dX1_follow_59 : decode cX1_follow 59 = .ok (.aload_n 1, 1) := by decide +kernel
theorem dX1_follow_60 : decode cX1_follow 60 = .ok (.aload_n 2, 1) := by decide +kernel
theorem dX1_follow_61 : decode cX1_follow 61 = .ok (.iload_n 3, 1) := by decide +kernel
theorem dX1_follow_62 : decode cX1_follow 62 = .ok (.iload 4, 2) := by decide +kernel
theorem dX1_follow_64 : decode cX1_follow 64 = .ok (.iconst 1, 1) := by decide +kernel
theorem dX1_follow_65 : decode cX1_follow 65 = .ok (.iadd, 1) := by decide +kernel
theorem dX1_follow_66 : decode cX1_follow 66 = .ok (.invokestatic 39, 3) := by decide +kernel
theorem dX1_follow_69 : decode cX1_follow 69 = .ok (.aload_n 1, 1) := by decide +kernel
theorem dX1_follow_70 : decode cX1_follow 70 = .ok (.iload 5, 2) := by decide +kernel
theorem dX1_follow_72 : decode cX1_follow 72 = .ok (.iload 6, 2) := by decide +kernel
theorem dX1_follow_74 : decode cX1_follow 74 = .ok (.iload 7, 2) := by decide +kernel
theorem dX1_follow_76 : decode cX1_follow 76 = .ok (.iload 8, 2) := by decide +kernel
theorem dX1_follow_78 : decode cX1_follow 78 = .ok (.invokevirtual 69, 3) := by decide +kernel
theorem dX1_follow_81 : decode cX1_follow 81 = .ok (.aload_n 1, 1) := by decide +kernel
theorem dX1_follow_82 : decode cX1_follow 82 = .ok (.iconst 0, 1) := by decide +kernel
theorem dX1_follow_83 : decode cX1_follow 83 = .ok (.invokevirtual 65, 3) := by decide +kernel
theorem dX1_follow_86 : decode cX1_follow 86 = .ok (.aload_n 0, 1) := by decide +kernel
theorem dX1_follow_87 : decode cX1_follow 87 = .ok (.aload_n 1, 1) := by decide +kernel
theorem dX1_follow_88 : decode cX1_follow 88 = .ok (.aload_n 2, 1) := by decide +kernel
theorem dX1_follow_89 : decode cX1_follow 89 = .ok (.iload_n 3, 1) := by decide +kernel
theorem dX1_follow_90 : decode cX1_follow 90 = .ok (.iload 4, 2) := by decide +kernel
theorem dX1_follow_92 : decode cX1_follow 92 = .ok (.iconst 1, 1) := by decide +kernel
theorem dX1_follow_93 : decode cX1_follow 93 = .ok (.iadd, 1) := by decide +kernel
theorem dX1_follow_94 : decode cX1_follow 94 = .ok (.invokestatic 39, 3) := by decide +kernel
theorem dX1_follow_97 : decode cX1_follow 97 = .ok (.aload_n 1, 1) := by decide +kernel
theorem dX1_follow_98 : decode cX1_follow 98 = .ok (.iload 5, 2) := by decide +kernel
theorem dX1_follow_100 : decode cX1_follow 100 = .ok (.iload 6, 2) := by decide +kernel
theorem dX1_follow_102 : decode cX1_follow 102 = .ok (.iload 7, 2) := by decide +kernel
theorem dX1_follow_104 : decode cX1_follow 104 = .ok (.iload 8, 2) := by decide +kernel
theorem dX1_follow_106 : decode cX1_follow 106 = .ok (.invokevirtual 69, 3) := by decide +kernel
theorem dX1_follow_109 : decode cX1_follow 109 = .ok (.return_, 1) := by decide +kernel
theorem dX1_mark_0 : decode cX1_mark 0 = .ok (.iload_n 1, 1) := by decide +kernel
theorem dX1_mark_1 : decode cX1_mark 1 = .ok (.ifCond .lt 28, 3) := by decide +kernel
theorem dX1_mark_4 : decode cX1_mark 4 = .ok (.iload_n 1, 1) := by decide +kernel
theorem dX1_mark_5 : decode cX1_mark 5 = .ok (.sipush 4096, 3) := by decide +kernel
theorem dX1_mark_8 : decode cX1_mark 8 = .ok (.if_icmp .ge 21, 3) := by decide +kernel
theorem dX1_mark_11 : decode cX1_mark 11 = .ok (.aload_n 0, 1) := by decide +kernel
theorem dX1_mark_12 : decode cX1_mark 12 = .ok (.getfield 11, 3) := by decide +kernel
theorem dX1_mark_15 : decode cX1_mark 15 = .ok (.iload_n 1, 1) := by decide +kernel
theorem dX1_mark_16 : decode cX1_mark 16 = .ok (.bipush 64, 2) := by decide +kernel
theorem dX1_mark_18 : decode cX1_mark 18 = .ok (.idiv, 1) := by decide +kernel
theorem dX1_mark_19 : decode cX1_mark 19 = .ok (.dup2, 1) := by decide +kernel
theorem dX1_mark_20 : decode cX1_mark 20 = .ok (.laload, 1) := by decide +kernel
theorem dX1_mark_21 : decode cX1_mark 21 = .ok (.lconst 1, 1) := by decide +kernel
theorem dX1_mark_22 : decode cX1_mark 22 = .ok (.iload_n 1, 1) := by decide +kernel
theorem dX1_mark_23 : decode cX1_mark 23 = .ok (.bipush 64, 2) := by decide +kernel
theorem dX1_mark_25 : decode cX1_mark 25 = .ok (.irem, 1) := by decide +kernel
theorem dX1_mark_26 : decode cX1_mark 26 = .ok (.lshl, 1) := by decide +kernel
theorem dX1_mark_27 : decode cX1_mark 27 = .ok (.lor, 1) := by decide +kernel
theorem dX1_mark_28 : decode cX1_mark 28 = .ok (.lastore, 1) := by decide +kernel
theorem dX1_mark_29 : decode cX1_mark 29 = .ok (.return_, 1) := by decide +kernel
theorem dX1_isSeen_0 : decode cX1_isSeen 0 = .ok (.iload_n 1, 1) := by decide +kernel
theorem dX1_isSeen_1 : decode cX1_isSeen 1 = .ok (.ifCond .lt 35, 3) := by decide +kernel
theorem dX1_isSeen_4 : decode cX1_isSeen 4 = .ok (.iload_n 1, 1) := by decide +kernel
theorem dX1_isSeen_5 : decode cX1_isSeen 5 = .ok (.sipush 4096, 3) := by decide +kernel
theorem dX1_isSeen_8 : decode cX1_isSeen 8 = .ok (.if_icmp .ge 28, 3) := by decide +kernel
theorem dX1_isSeen_11 : decode cX1_isSeen 11 = .ok (.aload_n 0, 1) := by decide +kernel
theorem dX1_isSeen_12 : decode cX1_isSeen 12 = .ok (.getfield 11, 3) := by decide +kernel
theorem dX1_isSeen_15 : decode cX1_isSeen 15 = .ok (.iload_n 1, 1) := by decide +kernel
theorem dX1_isSeen_16 : decode cX1_isSeen 16 = .ok (.bipush 64, 2) := by decide +kernel
theorem dX1_isSeen_18 : decode cX1_isSeen 18 = .ok (.idiv, 1) := by decide +kernel
theorem dX1_isSeen_19 : decode cX1_isSeen 19 = .ok (.laload, 1) := by decide +kernel
theorem dX1_isSeen_20 : decode cX1_isSeen 20 = .ok (.iload_n 1, 1) := by decide +kernel
theorem dX1_isSeen_21 : decode cX1_isSeen 21 = .ok (.bipush 64, 2) := by decide +kernel
theorem dX1_isSeen_23 : decode cX1_isSeen 23 = .ok (.irem, 1) := by decide +kernel
theorem dX1_isSeen_24 : decode cX1_isSeen 24 = .ok (.lshr, 1) := by decide +kernel
theorem dX1_isSeen_25 : decode cX1_isSeen 25 = .ok (.lconst 1, 1) := by decide +kernel
theorem dX1_isSeen_26 : decode cX1_isSeen 26 = .ok (.land, 1) := by decide +kernel
theorem dX1_isSeen_27 : decode cX1_isSeen 27 = .ok (.lconst 1, 1) := by decide +kernel
theorem dX1_isSeen_28 : decode cX1_isSeen 28 = .ok (.lcmp, 1) := by decide +kernel
theorem dX1_isSeen_29 : decode cX1_isSeen 29 = .ok (.ifCond .ne 7, 3) := by decide +kernel
theorem dX1_isSeen_32 : decode cX1_isSeen 32 = .ok (.iconst 1, 1) := by decide +kernel
theorem dX1_isSeen_33 : decode cX1_isSeen 33 = .ok (.goto 4, 3) := by decide +kernel
theorem dX1_isSeen_36 : decode cX1_isSeen 36 = .ok (.iconst 0, 1) := by decide +kernel
theorem dX1_isSeen_37 : decode cX1_isSeen 37 = .ok (.ireturn, 1) := by decide +kernel
theorem dX1_howMany_0 : decode cX1_howMany 0 = .ok (.iconst 0, 1) := by decide +kernel
theorem dX1_howMany_1 : decode cX1_howMany 1 = .ok (.istore_n 1, 1) := by decide +kernel
theorem dX1_howMany_2 : decode cX1_howMany 2 = .ok (.iconst 0, 1) := by decide +kernel
theorem dX1_howMany_3 : decode cX1_howMany 3 = .ok (.istore_n 2, 1) := by decide +kernel
theorem dX1_howMany_4 : decode cX1_howMany 4 = .ok (.iload_n 2, 1) := by decide +kernel
theorem dX1_howMany_5 : decode cX1_howMany 5 = .ok (.aload_n 0, 1) := by decide +kernel
theorem dX1_howMany_6 : decode cX1_howMany 6 = .ok (.getfield 11, 3) := by decide +kernel
theorem dX1_howMany_9 : decode cX1_howMany 9 = .ok (.arraylength, 1) := by decide +kernel
theorem dX1_howMany_10 : decode cX1_howMany 10 = .ok (.if_icmp .ge 21, 3) := by decide +kernel
theorem dX1_howMany_13 : decode cX1_howMany 13 = .ok (.iload_n 1, 1) := by decide +kernel
theorem dX1_howMany_14 : decode cX1_howMany 14 = .ok (.aload_n 0, 1) := by decide +kernel
theorem dX1_howMany_15 : decode cX1_howMany 15 = .ok (.getfield 11, 3) := by decide +kernel
theorem dX1_howMany_18 : decode cX1_howMany 18 = .ok (.iload_n 2, 1) := by decide +kernel
theorem dX1_howMany_19 : decode cX1_howMany 19 = .ok (.laload, 1) := by decide +kernel
theorem dX1_howMany_20 : decode cX1_howMany 20 = .ok (.invokestatic 73, 3) := by decide +kernel
theorem dX1_howMany_23 : decode cX1_howMany 23 = .ok (.iadd, 1) := by decide +kernel
theorem dX1_howMany_24 : decode cX1_howMany 24 = .ok (.istore_n 1, 1) := by decide +kernel
theorem dX1_howMany_25 : decode cX1_howMany 25 = .ok (.iinc 2 1, 3) := by decide +kernel
theorem dX1_howMany_28 : decode cX1_howMany 28 = .ok (.goto (-24), 3) := by decide +kernel
theorem dX1_howMany_31 : decode cX1_howMany 31 = .ok (.iload_n 1, 1) := by decide +kernel
theorem dX1_howMany_32 : decode cX1_howMany 32 = .ok (.ireturn, 1) := by decide +kernel
theorem dX1_fewestUnits_0 : decode cX1_fewestUnits 0 = .ok (.bipush 12, 2) := by decide +kernel
theorem dX1_fewestUnits_2 : decode cX1_fewestUnits 2 = .ok (.istore_n 1, 1) := by decide +kernel
theorem dX1_fewestUnits_3 : decode cX1_fewestUnits 3 = .ok (.iconst 0, 1) := by decide +kernel
theorem dX1_fewestUnits_4 : decode cX1_fewestUnits 4 = .ok (.istore_n 2, 1) := by decide +kernel
theorem dX1_fewestUnits_5 : decode cX1_fewestUnits 5 = .ok (.iload_n 2, 1) := by decide +kernel
theorem dX1_fewestUnits_6 : decode cX1_fewestUnits 6 = .ok (.sipush 4096, 3) := by decide +kernel
theorem dX1_fewestUnits_9 : decode cX1_fewestUnits 9 = .ok (.if_icmp .ge 26, 3) := by decide +kernel
theorem dX1_fewestUnits_12 : decode cX1_fewestUnits 12 = .ok (.aload_n 0, 1) := by decide +kernel
theorem dX1_fewestUnits_13 : decode cX1_fewestUnits 13 = .ok (.iload_n 2, 1) := by decide +kernel
theorem dX1_fewestUnits_14 : decode cX1_fewestUnits 14 = .ok (.invokevirtual 79, 3) := by decide +kernel
theorem dX1_fewestUnits_17 : decode cX1_fewestUnits 17 = .ok (.ifCond .eq 12, 3) := by decide +kernel
theorem dX1_fewestUnits_20 : decode cX1_fewestUnits 20 = .ok (.iload_n 1, 1) := by decide +kernel
theorem dX1_fewestUnits_21 : decode cX1_fewestUnits 21 = .ok (.iload_n 2, 1) := by decide +kernel
theorem dX1_fewestUnits_22 : decode cX1_fewestUnits 22 = .ok (.invokestatic 83, 3) := by decide +kernel
theorem dX1_fewestUnits_25 : decode cX1_fewestUnits 25 = .ok (.invokestatic 87, 3) := by decide +kernel
theorem dX1_fewestUnits_28 : decode cX1_fewestUnits 28 = .ok (.istore_n 1, 1) := by decide +kernel
theorem dX1_fewestUnits_29 : decode cX1_fewestUnits 29 = .ok (.iinc 2 1, 3) := by decide +kernel
theorem dX1_fewestUnits_32 : decode cX1_fewestUnits 32 = .ok (.goto (-27), 3) := by decide +kernel
theorem dX1_fewestUnits_35 : decode cX1_fewestUnits 35 = .ok (.iload_n 1, 1) := by decide +kernel
theorem dX1_fewestUnits_36 : decode cX1_fewestUnits 36 = .ok (.ireturn, 1) := by decide +kernel
theorem dX1_mostUnits_0 : decode cX1_mostUnits 0 = .ok (.iconst 0, 1) := by decide +kernel
theorem dX1_mostUnits_1 : decode cX1_mostUnits 1 = .ok (.istore_n 1, 1) := by decide +kernel
theorem dX1_mostUnits_2 : decode cX1_mostUnits 2 = .ok (.iconst 0, 1) := by decide +kernel
theorem dX1_mostUnits_3 : decode cX1_mostUnits 3 = .ok (.istore_n 2, 1) := by decide +kernel
theorem dX1_mostUnits_4 : decode cX1_mostUnits 4 = .ok (.iload_n 2, 1) := by decide +kernel
theorem dX1_mostUnits_5 : decode cX1_mostUnits 5 = .ok (.sipush 4096, 3) := by decide +kernel
theorem dX1_mostUnits_8 : decode cX1_mostUnits 8 = .ok (.if_icmp .ge 26, 3) := by decide +kernel
theorem dX1_mostUnits_11 : decode cX1_mostUnits 11 = .ok (.aload_n 0, 1) := by decide +kernel
theorem dX1_mostUnits_12 : decode cX1_mostUnits 12 = .ok (.iload_n 2, 1) := by decide +kernel
theorem dX1_mostUnits_13 : decode cX1_mostUnits 13 = .ok (.invokevirtual 79, 3) := by decide +kernel
theorem dX1_mostUnits_16 : decode cX1_mostUnits 16 = .ok (.ifCond .eq 12, 3) := by decide +kernel
theorem dX1_mostUnits_19 : decode cX1_mostUnits 19 = .ok (.iload_n 1, 1) := by decide +kernel
theorem dX1_mostUnits_20 : decode cX1_mostUnits 20 = .ok (.iload_n 2, 1) := by decide +kernel
theorem dX1_mostUnits_21 : decode cX1_mostUnits 21 = .ok (.invokestatic 83, 3) := by decide +kernel
theorem dX1_mostUnits_24 : decode cX1_mostUnits 24 = .ok (.invokestatic 93, 3) := by decide +kernel
theorem dX1_mostUnits_27 : decode cX1_mostUnits 27 = .ok (.istore_n 1, 1) := by decide +kernel
theorem dX1_mostUnits_28 : decode cX1_mostUnits 28 = .ok (.iinc 2 1, 3) := by decide +kernel
theorem dX1_mostUnits_31 : decode cX1_mostUnits 31 = .ok (.goto (-27), 3) := by decide +kernel
theorem dX1_mostUnits_34 : decode cX1_mostUnits 34 = .ok (.iload_n 1, 1) := by decide +kernel
theorem dX1_mostUnits_35 : decode cX1_mostUnits 35 = .ok (.ireturn, 1) := by decide +kernel
theorem dX1_hasWith_0 : decode cX1_hasWith 0 = .ok (.iconst 0, 1) := by decide +kernel
theorem dX1_hasWith_1 : decode cX1_hasWith 1 = .ok (.istore_n 2, 1) := by decide +kernel
theorem dX1_hasWith_2 : decode cX1_hasWith 2 = .ok (.iload_n 2, 1) := by decide +kernel
theorem dX1_hasWith_3 : decode cX1_hasWith 3 = .ok (.sipush 4096, 3) := by decide +kernel
theorem dX1_hasWith_6 : decode cX1_hasWith 6 = .ok (.if_icmp .ge 26, 3) := by decide +kernel
theorem dX1_hasWith_9 : decode cX1_hasWith 9 = .ok (.iload_n 2, 1) := by decide +kernel
theorem dX1_hasWith_10 : decode cX1_hasWith 10 = .ok (.iload_n 1, 1) := by decide +kernel
theorem dX1_hasWith_11 : decode cX1_hasWith 11 = .ok (.iand, 1) := by decide +kernel
theorem dX1_hasWith_12 : decode cX1_hasWith 12 = .ok (.iload_n 1, 1) := by decide +kernel
theorem dX1_hasWith_13 : decode cX1_hasWith 13 = .ok (.if_icmp .ne 13, 3) := by decide +kernel
theorem dX1_hasWith_16 : decode cX1_hasWith 16 = .ok (.aload_n 0, 1) := by decide +kernel
theorem dX1_hasWith_17 : decode cX1_hasWith 17 = .ok (.iload_n 2, 1) := by decide +kernel
theorem dX1_hasWith_18 : decode cX1_hasWith 18 = .ok (.invokevirtual 79, 3) := by decide +kernel
theorem dX1_hasWith_21 : decode cX1_hasWith 21 = .ok (.ifCond .eq 5, 3) := by decide +kernel
theorem dX1_hasWith_24 : decode cX1_hasWith 24 = .ok (.iconst 1, 1) := by decide +kernel
theorem dX1_hasWith_25 : decode cX1_hasWith 25 = .ok (.ireturn, 1) := by decide +kernel
theorem dX1_hasWith_26 : decode cX1_hasWith 26 = .ok (.iinc 2 1, 3) := by decide +kernel
theorem dX1_hasWith_29 : decode cX1_hasWith 29 = .ok (.goto (-27), 3) := by decide +kernel
theorem dX1_hasWith_32 : decode cX1_hasWith 32 = .ok (.iconst 0, 1) := by decide +kernel
theorem dX1_hasWith_33 : decode cX1_hasWith 33 = .ok (.ireturn, 1) := by decide +kernel
theorem dX1_leastMiss_0 : decode cX1_leastMiss 0 = .ok (.ldc2_w 96, 3) := by decide +kernel
theorem dX1_leastMiss_3 : decode cX1_leastMiss 3 = .ok (.lstore_n 2, 1) := by decide +kernel
theorem dX1_leastMiss_4 : decode cX1_leastMiss 4 = .ok (.iconst 0, 1) := by decide +kernel
theorem dX1_leastMiss_5 : decode cX1_leastMiss 5 = .ok (.istore 4, 2) := by decide +kernel
theorem dX1_leastMiss_7 : decode cX1_leastMiss 7 = .ok (.iload 4, 2) := by decide +kernel
theorem dX1_leastMiss_9 : decode cX1_leastMiss 9 = .ok (.sipush 4096, 3) := by decide +kernel
theorem dX1_leastMiss_12 : decode cX1_leastMiss 12 = .ok (.if_icmp .ge 29, 3) := by decide +kernel
theorem dX1_leastMiss_15 : decode cX1_leastMiss 15 = .ok (.aload_n 0, 1) := by decide +kernel
theorem dX1_leastMiss_16 : decode cX1_leastMiss 16 = .ok (.iload 4, 2) := by decide +kernel
theorem dX1_leastMiss_18 : decode cX1_leastMiss 18 = .ok (.invokevirtual 79, 3) := by decide +kernel
theorem dX1_leastMiss_21 : decode cX1_leastMiss 21 = .ok (.ifCond .eq 14, 3) := by decide +kernel
theorem dX1_leastMiss_24 : decode cX1_leastMiss 24 = .ok (.lload_n 2, 1) := by decide +kernel
theorem dX1_leastMiss_25 : decode cX1_leastMiss 25 = .ok (.aload_n 1, 1) := by decide +kernel
theorem dX1_leastMiss_26 : decode cX1_leastMiss 26 = .ok (.iload 4, 2) := by decide +kernel
theorem dX1_leastMiss_28 : decode cX1_leastMiss 28 = .ok (.invokevirtual 98, 3) := by decide +kernel
theorem dX1_leastMiss_31 : decode cX1_leastMiss 31 = .ok (.invokestatic 102, 3) := by decide +kernel
theorem dX1_leastMiss_34 : decode cX1_leastMiss 34 = .ok (.lstore_n 2, 1) := by decide +kernel
theorem dX1_leastMiss_35 : decode cX1_leastMiss 35 = .ok (.iinc 4 1, 3) := by decide +kernel
theorem dX1_leastMiss_38 : decode cX1_leastMiss 38 = .ok (.goto (-31), 3) := by decide +kernel
theorem dX1_leastMiss_41 : decode cX1_leastMiss 41 = .ok (.lload_n 2, 1) := by decide +kernel
theorem dX1_leastMiss_42 : decode cX1_leastMiss 42 = .ok (.lreturn, 1) := by decide +kernel
theorem dX2_init_0 : decode cX2_init 0 = .ok (.aload_n 0, 1) := by decide +kernel
theorem dX2_init_1 : decode cX2_init 1 = .ok (.invokespecial 3, 3) := by decide +kernel
theorem dX2_init_4 : decode cX2_init 4 = .ok (.aload_n 0, 1) := by decide +kernel
theorem dX2_init_5 : decode cX2_init 5 = .ok (.sipush 300, 3) := by decide +kernel
theorem dX2_init_8 : decode cX2_init 8 = .ok (.newarray .byte, 2) := by decide +kernel
theorem dX2_init_10 : decode cX2_init 10 = .ok (.putfield 11, 3) := by decide +kernel
theorem dX2_init_13 : decode cX2_init 13 = .ok (.return_, 1) := by decide +kernel
theorem dX2_sign_0 : decode cX2_sign 0 = .ok (.iload_n 1, 1) := by decide +kernel
theorem dX2_sign_1 : decode cX2_sign 1 = .ok (.ifCond .lt 27, 3) := by decide +kernel
theorem dX2_sign_4 : decode cX2_sign 4 = .ok (.iload_n 1, 1) := by decide +kernel
theorem dX2_sign_5 : decode cX2_sign 5 = .ok (.aload_n 0, 1) := by decide +kernel
theorem dX2_sign_6 : decode cX2_sign 6 = .ok (.getfield 15, 3) := by decide +kernel
theorem dX2_sign_9 : decode cX2_sign 9 = .ok (.if_icmp .ge 19, 3) := by decide +kernel
theorem dX2_sign_12 : decode cX2_sign 12 = .ok (.iload_n 1, 1) := by decide +kernel
theorem dX2_sign_13 : decode cX2_sign 13 = .ok (.sipush 300, 3) := by decide +kernel
theorem dX2_sign_16 : decode cX2_sign 16 = .ok (.if_icmp .ge 12, 3) := by decide +kernel
theorem dX2_sign_19 : decode cX2_sign 19 = .ok (.aload_n 0, 1) := by decide +kernel
theorem dX2_sign_20 : decode cX2_sign 20 = .ok (.getfield 11, 3) := by decide +kernel
theorem dX2_sign_23 : decode cX2_sign 23 = .ok (.iload_n 1, 1) := by decide +kernel
theorem dX2_sign_24 : decode cX2_sign 24 = .ok (.baload, 1) := by decide +kernel
theorem dX2_sign_25 : decode cX2_sign 25 = .ok (.goto 5, 3) := by decide +kernel
theorem dX2_sign_28 : decode cX2_sign 28 = .ok (.bipush (-5), 2) := by decide +kernel
theorem dX2_sign_30 : decode cX2_sign 30 = .ok (.ireturn, 1) := by decide +kernel
theorem dX2_put_0 : decode cX2_put 0 = .ok (.aload_n 0, 1) := by decide +kernel
theorem dX2_put_1 : decode cX2_put 1 = .ok (.getfield 15, 3) := by decide +kernel
theorem dX2_put_4 : decode cX2_put 4 = .ok (.sipush 300, 3) := by decide +kernel
theorem dX2_put_7 : decode cX2_put 7 = .ok (.if_icmp .ge 24, 3) := by decide +kernel
theorem dX2_put_10 : decode cX2_put 10 = .ok (.aload_n 0, 1) := by decide +kernel
theorem dX2_put_11 : decode cX2_put 11 = .ok (.getfield 11, 3) := by decide +kernel
theorem dX2_put_14 : decode cX2_put 14 = .ok (.aload_n 0, 1) := by decide +kernel
theorem dX2_put_15 : decode cX2_put 15 = .ok (.getfield 15, 3) := by decide +kernel
theorem dX2_put_18 : decode cX2_put 18 = .ok (.iload_n 1, 1) := by decide +kernel
theorem dX2_put_19 : decode cX2_put 19 = .ok (.i2b, 1) := by decide +kernel
theorem dX2_put_20 : decode cX2_put 20 = .ok (.bastore, 1) := by decide +kernel
theorem dX2_put_21 : decode cX2_put 21 = .ok (.aload_n 0, 1) := by decide +kernel
theorem dX2_put_22 : decode cX2_put 22 = .ok (.dup, 1) := by decide +kernel
theorem dX2_put_23 : decode cX2_put 23 = .ok (.getfield 15, 3) := by decide +kernel
theorem dX2_put_26 : decode cX2_put 26 = .ok (.iconst 1, 1) := by decide +kernel
theorem dX2_put_27 : decode cX2_put 27 = .ok (.iadd, 1) := by decide +kernel
theorem dX2_put_28 : decode cX2_put 28 = .ok (.putfield 15, 3) := by decide +kernel
theorem dX2_put_31 : decode cX2_put 31 = .ok (.return_, 1) := by decide +kernel
theorem dX2_putWord_0 : decode cX2_putWord 0 = .ok (.iconst 0, 1) := by decide +kernel
theorem dX2_putWord_1 : decode cX2_putWord 1 = .ok (.istore_n 2, 1) := by decide +kernel
theorem dX2_putWord_2 : decode cX2_putWord 2 = .ok (.iload_n 2, 1) := by decide +kernel
theorem dX2_putWord_3 : decode cX2_putWord 3 = .ok (.aload_n 1, 1) := by decide +kernel
theorem dX2_putWord_4 : decode cX2_putWord 4 = .ok (.invokevirtual 19, 3) := by decide +kernel
theorem dX2_putWord_7 : decode cX2_putWord 7 = .ok (.if_icmp .ge 18, 3) := by decide +kernel
theorem dX2_putWord_10 : decode cX2_putWord 10 = .ok (.aload_n 0, 1) := by decide +kernel
theorem dX2_putWord_11 : decode cX2_putWord 11 = .ok (.aload_n 1, 1) := by decide +kernel
theorem dX2_putWord_12 : decode cX2_putWord 12 = .ok (.iload_n 2, 1) := by decide +kernel
theorem dX2_putWord_13 : decode cX2_putWord 13 = .ok (.invokevirtual 24, 3) := by decide +kernel
theorem dX2_putWord_16 : decode cX2_putWord 16 = .ok (.invokevirtual 28, 3) := by decide +kernel
theorem dX2_putWord_19 : decode cX2_putWord 19 = .ok (.iinc 2 1, 3) := by decide +kernel
theorem dX2_putWord_22 : decode cX2_putWord 22 = .ok (.goto (-20), 3) := by decide +kernel
theorem dX2_putWord_25 : decode cX2_putWord 25 = .ok (.return_, 1) := by decide +kernel
theorem dX2_putNumber_0 : decode cX2_putNumber 0 = .ok (.iload_n 1, 1) := by decide +kernel
theorem dX2_putNumber_1 : decode cX2_putNumber 1 = .ok (.bipush 10, 2) := by decide +kernel
theorem dX2_putNumber_3 : decode cX2_putNumber 3 = .ok (.if_icmp .lt 17, 3) := by decide +kernel
theorem dX2_putNumber_6 : decode cX2_putNumber 6 = .ok (.aload_n 0, 1) := by decide +kernel
theorem dX2_putNumber_7 : decode cX2_putNumber 7 = .ok (.bipush 48, 2) := by decide +kernel
theorem dX2_putNumber_9 : decode cX2_putNumber 9 = .ok (.iload_n 1, 1) := by decide +kernel
theorem dX2_putNumber_10 : decode cX2_putNumber 10 = .ok (.bipush 10, 2) := by decide +kernel
theorem dX2_putNumber_12 : decode cX2_putNumber 12 = .ok (.idiv, 1) := by decide +kernel
theorem dX2_putNumber_13 : decode cX2_putNumber 13 = .ok (.bipush 10, 2) := by decide +kernel
theorem dX2_putNumber_15 : decode cX2_putNumber 15 = .ok (.irem, 1) := by decide +kernel
theorem dX2_putNumber_16 : decode cX2_putNumber 16 = .ok (.iadd, 1) := by decide +kernel
theorem dX2_putNumber_17 : decode cX2_putNumber 17 = .ok (.invokevirtual 28, 3) := by decide +kernel
theorem dX2_putNumber_20 : decode cX2_putNumber 20 = .ok (.aload_n 0, 1) := by decide +kernel
theorem dX2_putNumber_21 : decode cX2_putNumber 21 = .ok (.bipush 48, 2) := by decide +kernel
theorem dX2_putNumber_23 : decode cX2_putNumber 23 = .ok (.iload_n 1, 1) := by decide +kernel
theorem dX2_putNumber_24 : decode cX2_putNumber 24 = .ok (.bipush 10, 2) := by decide +kernel
theorem dX2_putNumber_26 : decode cX2_putNumber 26 = .ok (.irem, 1) := by decide +kernel
theorem dX2_putNumber_27 : decode cX2_putNumber 27 = .ok (.iadd, 1) := by decide +kernel
theorem dX2_putNumber_28 : decode cX2_putNumber 28 = .ok (.invokevirtual 28, 3) := by decide +kernel
theorem dX2_putNumber_31 : decode cX2_putNumber 31 = .ok (.return_, 1) := by decide +kernel
theorem dX2_putUnits_0 : decode cX2_putUnits 0 = .ok (.iload_n 1, 1) := by decide +kernel
theorem dX2_putUnits_1 : decode cX2_putUnits 1 = .ok (.ifCond .ne 10, 3) := by decide +kernel
theorem dX2_putUnits_4 : decode cX2_putUnits 4 = .ok (.aload_n 0, 1) := by decide +kernel
theorem dX2_putUnits_5 : decode cX2_putUnits 5 = .ok (.bipush 45, 2) := by decide +kernel
theorem dX2_putUnits_7 : decode cX2_putUnits 7 = .ok (.invokevirtual 28, 3) := by decide +kernel
theorem dX2_putUnits_10 : decode cX2_putUnits 10 = .ok (.return_, 1) := by decide +kernel
theorem dX2_putUnits_11 : decode cX2_putUnits 11 = .ok (.iconst 0, 1) := by decide +kernel
theorem dX2_putUnits_12 : decode cX2_putUnits 12 = .ok (.istore_n 2, 1) := by decide +kernel
theorem dX2_putUnits_13 : decode cX2_putUnits 13 = .ok (.iconst 0, 1) := by decide +kernel
theorem dX2_putUnits_14 : decode cX2_putUnits 14 = .ok (.istore_n 3, 1) := by decide +kernel
theorem dX2_putUnits_15 : decode cX2_putUnits 15 = .ok (.iload_n 3, 1) := by decide +kernel
theorem dX2_putUnits_16 : decode cX2_putUnits 16 = .ok (.bipush 12, 2) := by decide +kernel
theorem dX2_putUnits_18 : decode cX2_putUnits 18 = .ok (.if_icmp .ge 35, 3) := by decide +kernel
theorem dX2_putUnits_21 : decode cX2_putUnits 21 = .ok (.iload_n 1, 1) := by decide +kernel
theorem dX2_putUnits_22 : decode cX2_putUnits 22 = .ok (.iload_n 3, 1) := by decide +kernel
theorem dX2_putUnits_23 : decode cX2_putUnits 23 = .ok (.ishr, 1) := by decide +kernel
theorem dX2_putUnits_24 : decode cX2_putUnits 24 = .ok (.iconst 1, 1) := by decide +kernel
theorem dX2_putUnits_25 : decode cX2_putUnits 25 = .ok (.iand, 1) := by decide +kernel
theorem dX2_putUnits_26 : decode cX2_putUnits 26 = .ok (.iconst 1, 1) := by decide +kernel
theorem dX2_putUnits_27 : decode cX2_putUnits 27 = .ok (.if_icmp .ne 20, 3) := by decide +kernel
theorem dX2_putUnits_30 : decode cX2_putUnits 30 = .ok (.iload_n 2, 1) := by decide +kernel
theorem dX2_putUnits_31 : decode cX2_putUnits 31 = .ok (.ifCond .eq 9, 3) := by decide +kernel
theorem dX2_putUnits_34 : decode cX2_putUnits 34 = .ok (.aload_n 0, 1) := by decide +kernel
theorem dX2_putUnits_35 : decode cX2_putUnits 35 = .ok (.bipush 43, 2) := by decide +kernel
theorem dX2_putUnits_37 : decode cX2_putUnits 37 = .ok (.invokevirtual 28, 3) := by decide +kernel
theorem dX2_putUnits_40 : decode cX2_putUnits 40 = .ok (.aload_n 0, 1) := by decide +kernel
theorem dX2_putUnits_41 : decode cX2_putUnits 41 = .ok (.iload_n 3, 1) := by decide +kernel
theorem dX2_putUnits_42 : decode cX2_putUnits 42 = .ok (.invokevirtual 32, 3) := by decide +kernel
theorem dX2_putUnits_45 : decode cX2_putUnits 45 = .ok (.iconst 1, 1) := by decide +kernel
theorem dX2_putUnits_46 : decode cX2_putUnits 46 = .ok (.istore_n 2, 1) := by decide +kernel
theorem dX2_putUnits_47 : decode cX2_putUnits 47 = .ok (.iinc 3 1, 3) := by decide +kernel
theorem dX2_putUnits_50 : decode cX2_putUnits 50 = .ok (.goto (-35), 3) := by decide +kernel
theorem dX2_putUnits_53 : decode cX2_putUnits 53 = .ok (.return_, 1) := by decide +kernel
theorem dX3_init_0 : decode cX3_init 0 = .ok (.aload_n 0, 1) := by decide +kernel
theorem dX3_init_1 : decode cX3_init 1 = .ok (.invokespecial 3, 3) := by decide +kernel
theorem dX3_init_4 : decode cX3_init 4 = .ok (.aload_n 0, 1) := by decide +kernel
theorem dX3_init_5 : decode cX3_init 5 = .ok (.iconst 5, 1) := by decide +kernel
theorem dX3_init_6 : decode cX3_init 6 = .ok (.bipush 12, 2) := by decide +kernel
theorem dX3_init_8 : decode cX3_init 8 = .ok (.multianewarray 9 2, 4) := by decide +kernel
theorem dX3_init_12 : decode cX3_init 12 = .ok (.putfield 11, 3) := by decide +kernel
theorem dX3_init_15 : decode cX3_init 15 = .ok (.return_, 1) := by decide +kernel
theorem dX3_fits_0 : decode cX3_fits 0 = .ok (.iload_n 0, 1) := by decide +kernel
theorem dX3_fits_1 : decode cX3_fits 1 = .ok (.ifCond .lt 28, 3) := by decide +kernel
theorem dX3_fits_4 : decode cX3_fits 4 = .ok (.iload_n 0, 1) := by decide +kernel
theorem dX3_fits_5 : decode cX3_fits 5 = .ok (.getstatic 16, 3) := by decide +kernel
theorem dX3_fits_8 : decode cX3_fits 8 = .ok (.arraylength, 1) := by decide +kernel
theorem dX3_fits_9 : decode cX3_fits 9 = .ok (.if_icmp .ge 20, 3) := by decide +kernel
theorem dX3_fits_12 : decode cX3_fits 12 = .ok (.iload_n 1, 1) := by decide +kernel
theorem dX3_fits_13 : decode cX3_fits 13 = .ok (.ifCond .lt 16, 3) := by decide +kernel
theorem dX3_fits_16 : decode cX3_fits 16 = .ok (.iload_n 1, 1) := by decide +kernel
theorem dX3_fits_17 : decode cX3_fits 17 = .ok (.getstatic 16, 3) := by decide +kernel
theorem dX3_fits_20 : decode cX3_fits 20 = .ok (.iload_n 0, 1) := by decide +kernel
theorem dX3_fits_21 : decode cX3_fits 21 = .ok (.iaload, 1) := by decide +kernel
theorem dX3_fits_22 : decode cX3_fits 22 = .ok (.if_icmp .gt 7, 3) := by decide +kernel
theorem dX3_fits_25 : decode cX3_fits 25 = .ok (.iconst 1, 1) := by decide +kernel
theorem dX3_fits_26 : decode cX3_fits 26 = .ok (.goto 4, 3) := by decide +kernel
theorem dX3_fits_29 : decode cX3_fits 29 = .ok (.iconst 0, 1) := by decide +kernel
theorem dX3_fits_30 : decode cX3_fits 30 = .ok (.ireturn, 1) := by decide +kernel
theorem dX3_has_0 : decode cX3_has 0 = .ok (.iload_n 1, 1) := by decide +kernel
theorem dX3_has_1 : decode cX3_has 1 = .ok (.ifCond .lt 15, 3) := by decide +kernel
theorem dX3_has_4 : decode cX3_has 4 = .ok (.iload_n 1, 1) := by decide +kernel
theorem dX3_has_5 : decode cX3_has 5 = .ok (.aload_n 0, 1) := by decide +kernel
theorem dX3_has_6 : decode cX3_has 6 = .ok (.getfield 20, 3) := by decide +kernel
theorem dX3_has_9 : decode cX3_has 9 = .ok (.if_icmp .ge 7, 3) := by decide +kernel
theorem dX3_has_12 : decode cX3_has 12 = .ok (.iconst 1, 1) := by decide +kernel
theorem dX3_has_13 : decode cX3_has 13 = .ok (.goto 4, 3) := by decide +kernel
theorem dX3_has_16 : decode cX3_has 16 = .ok (.iconst 0, 1) := by decide +kernel
theorem dX3_has_17 : decode cX3_has 17 = .ok (.ireturn, 1) := by decide +kernel
theorem dX3_fact_0 : decode cX3_fact 0 = .ok (.iload_n 1, 1) := by decide +kernel
theorem dX3_fact_1 : decode cX3_fact 1 = .ok (.ifCond .lt 31, 3) := by decide +kernel
theorem dX3_fact_4 : decode cX3_fact 4 = .ok (.iload_n 1, 1) := by decide +kernel
theorem dX3_fact_5 : decode cX3_fact 5 = .ok (.aload_n 0, 1) := by decide +kernel
theorem dX3_fact_6 : decode cX3_fact 6 = .ok (.getfield 20, 3) := by decide +kernel
theorem dX3_fact_9 : decode cX3_fact 9 = .ok (.if_icmp .ge 23, 3) := by decide +kernel
theorem dX3_fact_12 : decode cX3_fact 12 = .ok (.iload_n 2, 1) := by decide +kernel
theorem dX3_fact_13 : decode cX3_fact 13 = .ok (.ifCond .lt 19, 3) := by decide +kernel
theorem dX3_fact_16 : decode cX3_fact 16 = .ok (.iload_n 2, 1) := by decide +kernel
theorem dX3_fact_17 : decode cX3_fact 17 = .ok (.iconst 5, 1) := by decide +kernel
theorem dX3_fact_18 : decode cX3_fact 18 = .ok (.if_icmp .ge 14, 3) := by decide +kernel
theorem dX3_fact_21 : decode cX3_fact 21 = .ok (.aload_n 0, 1) := by decide +kernel
theorem dX3_fact_22 : decode cX3_fact 22 = .ok (.getfield 11, 3) := by decide +kernel
theorem dX3_fact_25 : decode cX3_fact 25 = .ok (.iload_n 2, 1) := by decide +kernel
theorem dX3_fact_26 : decode cX3_fact 26 = .ok (.aaload, 1) := by decide +kernel
theorem dX3_fact_27 : decode cX3_fact 27 = .ok (.iload_n 1, 1) := by decide +kernel
theorem dX3_fact_28 : decode cX3_fact 28 = .ok (.iaload, 1) := by decide +kernel
theorem dX3_fact_29 : decode cX3_fact 29 = .ok (.goto 4, 3) := by decide +kernel
theorem dX3_fact_32 : decode cX3_fact 32 = .ok (.iconst 0, 1) := by decide +kernel
theorem dX3_fact_33 : decode cX3_fact 33 = .ok (.ireturn, 1) := by decide +kernel
theorem dX3_change_0 : decode cX3_change 0 = .ok (.aload_n 0, 1) := by decide +kernel
theorem dX3_change_1 : decode cX3_change 1 = .ok (.iload_n 1, 1) := by decide +kernel
theorem dX3_change_2 : decode cX3_change 2 = .ok (.invokevirtual 24, 3) := by decide +kernel
theorem dX3_change_5 : decode cX3_change 5 = .ok (.ifCond .eq 12, 3) := by decide +kernel
theorem dX3_change_8 : decode cX3_change 8 = .ok (.iload_n 2, 1) := by decide +kernel
theorem dX3_change_9 : decode cX3_change 9 = .ok (.ifCond .lt 8, 3) := by decide +kernel
theorem dX3_change_12 : decode cX3_change 12 = .ok (.iload_n 2, 1) := by decide +kernel
theorem dX3_change_13 : decode cX3_change 13 = .ok (.iconst 5, 1) := by decide +kernel
theorem dX3_change_14 : decode cX3_change 14 = .ok (.if_icmp .lt 6, 3) := by decide +kernel
theorem dX3_change_17 : decode cX3_change 17 = .ok (.bipush (-2), 2) := by decide +kernel
theorem dX3_change_19 : decode cX3_change 19 = .ok (.ireturn, 1) := by decide +kernel
theorem dX3_change_20 : decode cX3_change 20 = .ok (.aload_n 0, 1) := by decide +kernel
theorem dX3_change_21 : decode cX3_change 21 = .ok (.getfield 11, 3) := by decide +kernel
theorem dX3_change_24 : decode cX3_change 24 = .ok (.iload_n 2, 1) := by decide +kernel
theorem dX3_change_25 : decode cX3_change 25 = .ok (.aaload, 1) := by decide +kernel
theorem dX3_change_26 : decode cX3_change 26 = .ok (.iload_n 1, 1) := by decide +kernel
theorem dX3_change_27 : decode cX3_change 27 = .ok (.iaload, 1) := by decide +kernel
theorem dX3_change_28 : decode cX3_change 28 = .ok (.istore 4, 2) := by decide +kernel
theorem dX3_change_30 : decode cX3_change 30 = .ok (.aload_n 0, 1) := by decide +kernel
theorem dX3_change_31 : decode cX3_change 31 = .ok (.getfield 11, 3) := by decide +kernel
theorem dX3_change_34 : decode cX3_change 34 = .ok (.iload_n 2, 1) := by decide +kernel
theorem dX3_change_35 : decode cX3_change 35 = .ok (.aaload, 1) := by decide +kernel
theorem dX3_change_36 : decode cX3_change 36 = .ok (.iload_n 1, 1) := by decide +kernel
theorem dX3_change_37 : decode cX3_change 37 = .ok (.iload_n 3, 1) := by decide +kernel
theorem dX3_change_38 : decode cX3_change 38 = .ok (.iastore, 1) := by decide +kernel
theorem dX3_change_39 : decode cX3_change 39 = .ok (.aload_n 0, 1) := by decide +kernel
theorem dX3_change_40 : decode cX3_change 40 = .ok (.dup, 1) := by decide +kernel
theorem dX3_change_41 : decode cX3_change 41 = .ok (.getfield 28, 3) := by decide +kernel
theorem dX3_change_44 : decode cX3_change 44 = .ok (.iconst 1, 1) := by decide +kernel
theorem dX3_change_45 : decode cX3_change 45 = .ok (.iadd, 1) := by decide +kernel
theorem dX3_change_46 : decode cX3_change 46 = .ok (.putfield 28, 3) := by decide +kernel
theorem dX3_change_49 : decode cX3_change 49 = .ok (.iload 4, 2) := by decide +kernel
theorem dX3_change_51 : decode cX3_change 51 = .ok (.ireturn, 1) := by decide +kernel
theorem dX3_append_0 : decode cX3_append 0 = .ok (.aload_n 0, 1) := by decide +kernel
theorem dX3_append_1 : decode cX3_append 1 = .ok (.getfield 20, 3) := by decide +kernel
theorem dX3_append_4 : decode cX3_append 4 = .ok (.bipush 12, 2) := by decide +kernel
theorem dX3_append_6 : decode cX3_append 6 = .ok (.if_icmp .lt 6, 3) := by decide +kernel
theorem dX3_append_9 : decode cX3_append 9 = .ok (.bipush (-4), 2) := by decide +kernel
theorem dX3_append_11 : decode cX3_append 11 = .ok (.ireturn, 1) := by decide +kernel
theorem dX3_append_12 : decode cX3_append 12 = .ok (.aload_n 0, 1) := by decide +kernel
theorem dX3_append_13 : decode cX3_append 13 = .ok (.getfield 11, 3) := by decide +kernel
theorem dX3_append_16 : decode cX3_append 16 = .ok (.iconst 0, 1) := by decide +kernel
theorem dX3_append_17 : decode cX3_append 17 = .ok (.aaload, 1) := by decide +kernel
theorem dX3_append_18 : decode cX3_append 18 = .ok (.aload_n 0, 1) := by decide +kernel
theorem dX3_append_19 : decode cX3_append 19 = .ok (.getfield 20, 3) := by decide +kernel
theorem dX3_append_22 : decode cX3_append 22 = .ok (.iload_n 1, 1) := by decide +kernel
theorem dX3_append_23 : decode cX3_append 23 = .ok (.iastore, 1) := by decide +kernel
theorem dX3_append_24 : decode cX3_append 24 = .ok (.aload_n 0, 1) := by decide +kernel
theorem dX3_append_25 : decode cX3_append 25 = .ok (.getfield 11, 3) := by decide +kernel
theorem dX3_append_28 : decode cX3_append 28 = .ok (.iconst 1, 1) := by decide +kernel
theorem dX3_append_29 : decode cX3_append 29 = .ok (.aaload, 1) := by decide +kernel
theorem dX3_append_30 : decode cX3_append 30 = .ok (.aload_n 0, 1) := by decide +kernel
theorem dX3_append_31 : decode cX3_append 31 = .ok (.getfield 20, 3) := by decide +kernel
theorem dX3_append_34 : decode cX3_append 34 = .ok (.iload_n 2, 1) := by decide +kernel
theorem dX3_append_35 : decode cX3_append 35 = .ok (.iastore, 1) := by decide +kernel
theorem dX3_append_36 : decode cX3_append 36 = .ok (.aload_n 0, 1) := by decide +kernel
theorem dX3_append_37 : decode cX3_append 37 = .ok (.getfield 11, 3) := by decide +kernel
theorem dX3_append_40 : decode cX3_append 40 = .ok (.iconst 2, 1) := by decide +kernel
theorem dX3_append_41 : decode cX3_append 41 = .ok (.aaload, 1) := by decide +kernel
theorem dX3_append_42 : decode cX3_append 42 = .ok (.aload_n 0, 1) := by decide +kernel
theorem dX3_append_43 : decode cX3_append 43 = .ok (.getfield 20, 3) := by decide +kernel
theorem dX3_append_46 : decode cX3_append 46 = .ok (.iload_n 3, 1) := by decide +kernel
theorem dX3_append_47 : decode cX3_append 47 = .ok (.iastore, 1) := by decide +kernel
theorem dX3_append_48 : decode cX3_append 48 = .ok (.aload_n 0, 1) := by decide +kernel
theorem dX3_append_49 : decode cX3_append 49 = .ok (.getfield 11, 3) := by decide +kernel
theorem dX3_append_52 : decode cX3_append 52 = .ok (.iconst 3, 1) := by decide +kernel
theorem dX3_append_53 : decode cX3_append 53 = .ok (.aaload, 1) := by decide +kernel
theorem dX3_append_54 : decode cX3_append 54 = .ok (.aload_n 0, 1) := by decide +kernel
theorem dX3_append_55 : decode cX3_append 55 = .ok (.getfield 20, 3) := by decide +kernel
theorem dX3_append_58 : decode cX3_append 58 = .ok (.iload 4, 2) := by decide +kernel
theorem dX3_append_60 : decode cX3_append 60 = .ok (.iastore, 1) := by decide +kernel
theorem dX3_append_61 : decode cX3_append 61 = .ok (.aload_n 0, 1) := by decide +kernel
theorem dX3_append_62 : decode cX3_append 62 = .ok (.getfield 11, 3) := by decide +kernel
theorem dX3_append_65 : decode cX3_append 65 = .ok (.iconst 4, 1) := by decide +kernel
theorem dX3_append_66 : decode cX3_append 66 = .ok (.aaload, 1) := by decide +kernel
theorem dX3_append_67 : decode cX3_append 67 = .ok (.aload_n 0, 1) := by decide +kernel
theorem dX3_append_68 : decode cX3_append 68 = .ok (.getfield 20, 3) := by decide +kernel
theorem dX3_append_71 : decode cX3_append 71 = .ok (.iload 5, 2) := by decide +kernel
theorem dX3_append_73 : decode cX3_append 73 = .ok (.iastore, 1) := by decide +kernel
theorem dX3_append_74 : decode cX3_append 74 = .ok (.aload_n 0, 1) := by decide +kernel
theorem dX3_append_75 : decode cX3_append 75 = .ok (.dup, 1) := by decide +kernel
theorem dX3_append_76 : decode cX3_append 76 = .ok (.getfield 28, 3) := by decide +kernel
theorem dX3_append_79 : decode cX3_append 79 = .ok (.iconst 1, 1) := by decide +kernel
theorem dX3_append_80 : decode cX3_append 80 = .ok (.iadd, 1) := by decide +kernel
theorem dX3_append_81 : decode cX3_append 81 = .ok (.putfield 28, 3) := by decide +kernel
theorem dX3_append_84 : decode cX3_append 84 = .ok (.aload_n 0, 1) := by decide +kernel
theorem dX3_append_85 : decode cX3_append 85 = .ok (.dup, 1) := by decide +kernel
theorem dX3_append_86 : decode cX3_append 86 = .ok (.getfield 20, 3) := by decide +kernel
theorem dX3_append_89 : decode cX3_append 89 = .ok (.iconst 1, 1) := by decide +kernel
theorem dX3_append_90 : decode cX3_append 90 = .ok (.iadd, 1) := by decide +kernel
theorem dX3_append_91 : decode cX3_append 91 = .ok (.putfield 20, 3) := by decide +kernel
theorem dX3_append_94 : decode cX3_append 94 = .ok (.aload_n 0, 1) := by decide +kernel
theorem dX3_append_95 : decode cX3_append 95 = .ok (.getfield 20, 3) := by decide +kernel
theorem dX3_append_98 : decode cX3_append 98 = .ok (.iconst 1, 1) := by decide +kernel
theorem dX3_append_99 : decode cX3_append 99 = .ok (.isub, 1) := by decide +kernel
theorem dX3_append_100 : decode cX3_append 100 = .ok (.ireturn, 1) := by decide +kernel
theorem dX3_removeAll_0 : decode cX3_removeAll 0 = .ok (.aload_n 0, 1) := by decide +kernel
theorem dX3_removeAll_1 : decode cX3_removeAll 1 = .ok (.iconst 0, 1) := by decide +kernel
theorem dX3_removeAll_2 : decode cX3_removeAll 2 = .ok (.putfield 20, 3) := by decide +kernel
theorem dX3_removeAll_5 : decode cX3_removeAll 5 = .ok (.aload_n 0, 1) := by decide +kernel
theorem dX3_removeAll_6 : decode cX3_removeAll 6 = .ok (.dup, 1) := by decide +kernel
theorem dX3_removeAll_7 : decode cX3_removeAll 7 = .ok (.getfield 28, 3) := by decide +kernel
theorem dX3_removeAll_10 : decode cX3_removeAll 10 = .ok (.iconst 1, 1) := by decide +kernel
theorem dX3_removeAll_11 : decode cX3_removeAll 11 = .ok (.iadd, 1) := by decide +kernel
theorem dX3_removeAll_12 : decode cX3_removeAll 12 = .ok (.putfield 28, 3) := by decide +kernel
theorem dX3_removeAll_15 : decode cX3_removeAll 15 = .ok (.return_, 1) := by decide +kernel
theorem dX3_distance_0 : decode cX3_distance 0 = .ok (.aload_n 0, 1) := by decide +kernel
theorem dX3_distance_1 : decode cX3_distance 1 = .ok (.iload_n 1, 1) := by decide +kernel
theorem dX3_distance_2 : decode cX3_distance 2 = .ok (.iconst 1, 1) := by decide +kernel
theorem dX3_distance_3 : decode cX3_distance 3 = .ok (.invokevirtual 31, 3) := by decide +kernel
theorem dX3_distance_6 : decode cX3_distance 6 = .ok (.aload_n 0, 1) := by decide +kernel
theorem dX3_distance_7 : decode cX3_distance 7 = .ok (.iload_n 2, 1) := by decide +kernel
theorem dX3_distance_8 : decode cX3_distance 8 = .ok (.iconst 1, 1) := by decide +kernel
theorem dX3_distance_9 : decode cX3_distance 9 = .ok (.invokevirtual 31, 3) := by decide +kernel
theorem dX3_distance_12 : decode cX3_distance 12 = .ok (.isub, 1) := by decide +kernel
theorem dX3_distance_13 : decode cX3_distance 13 = .ok (.invokestatic 35, 3) := by decide +kernel
theorem dX3_distance_16 : decode cX3_distance 16 = .ok (.ireturn, 1) := by decide +kernel
theorem dX3_sum_0 : decode cX3_sum 0 = .ok (.iconst 0, 1) := by decide +kernel
theorem dX3_sum_1 : decode cX3_sum 1 = .ok (.istore_n 2, 1) := by decide +kernel
theorem dX3_sum_2 : decode cX3_sum 2 = .ok (.iconst 0, 1) := by decide +kernel
theorem dX3_sum_3 : decode cX3_sum 3 = .ok (.istore_n 3, 1) := by decide +kernel
theorem dX3_sum_4 : decode cX3_sum 4 = .ok (.iload_n 3, 1) := by decide +kernel
theorem dX3_sum_5 : decode cX3_sum 5 = .ok (.aload_n 0, 1) := by decide +kernel
theorem dX3_sum_6 : decode cX3_sum 6 = .ok (.getfield 20, 3) := by decide +kernel
theorem dX3_sum_9 : decode cX3_sum 9 = .ok (.if_icmp .ge 27, 3) := by decide +kernel
theorem dX3_sum_12 : decode cX3_sum 12 = .ok (.aload_n 0, 1) := by decide +kernel
theorem dX3_sum_13 : decode cX3_sum 13 = .ok (.iload_n 3, 1) := by decide +kernel
theorem dX3_sum_14 : decode cX3_sum 14 = .ok (.iconst 0, 1) := by decide +kernel
theorem dX3_sum_15 : decode cX3_sum 15 = .ok (.invokevirtual 31, 3) := by decide +kernel
theorem dX3_sum_18 : decode cX3_sum 18 = .ok (.ifCond .le 12, 3) := by decide +kernel
theorem dX3_sum_21 : decode cX3_sum 21 = .ok (.iload_n 2, 1) := by decide +kernel
theorem dX3_sum_22 : decode cX3_sum 22 = .ok (.aload_n 0, 1) := by decide +kernel
theorem dX3_sum_23 : decode cX3_sum 23 = .ok (.iload_n 3, 1) := by decide +kernel
theorem dX3_sum_24 : decode cX3_sum 24 = .ok (.iload_n 1, 1) := by decide +kernel
theorem dX3_sum_25 : decode cX3_sum 25 = .ok (.invokevirtual 31, 3) := by decide +kernel
theorem dX3_sum_28 : decode cX3_sum 28 = .ok (.iadd, 1) := by decide +kernel
theorem dX3_sum_29 : decode cX3_sum 29 = .ok (.istore_n 2, 1) := by decide +kernel
theorem dX3_sum_30 : decode cX3_sum 30 = .ok (.iinc 3 1, 3) := by decide +kernel
theorem dX3_sum_33 : decode cX3_sum 33 = .ok (.goto (-29), 3) := by decide +kernel
theorem dX3_sum_36 : decode cX3_sum 36 = .ok (.iload_n 2, 1) := by decide +kernel
theorem dX3_sum_37 : decode cX3_sum 37 = .ok (.ireturn, 1) := by decide +kernel
theorem dX3_openAtFirst_0 : decode cX3_openAtFirst 0 = .ok (.iconst 0, 1) := by decide +kernel
theorem dX3_openAtFirst_1 : decode cX3_openAtFirst 1 = .ok (.istore_n 1, 1) := by decide +kernel
theorem dX3_openAtFirst_2 : decode cX3_openAtFirst 2 = .ok (.iconst 0, 1) := by decide +kernel
theorem dX3_openAtFirst_3 : decode cX3_openAtFirst 3 = .ok (.istore_n 2, 1) := by decide +kernel
theorem dX3_openAtFirst_4 : decode cX3_openAtFirst 4 = .ok (.iload_n 2, 1) := by decide +kernel
theorem dX3_openAtFirst_5 : decode cX3_openAtFirst 5 = .ok (.aload_n 0, 1) := by decide +kernel
theorem dX3_openAtFirst_6 : decode cX3_openAtFirst 6 = .ok (.getfield 20, 3) := by decide +kernel
theorem dX3_openAtFirst_9 : decode cX3_openAtFirst 9 = .ok (.if_icmp .ge 32, 3) := by decide +kernel
theorem dX3_openAtFirst_12 : decode cX3_openAtFirst 12 = .ok (.aload_n 0, 1) := by decide +kernel
theorem dX3_openAtFirst_13 : decode cX3_openAtFirst 13 = .ok (.iload_n 2, 1) := by decide +kernel
theorem dX3_openAtFirst_14 : decode cX3_openAtFirst 14 = .ok (.iconst 0, 1) := by decide +kernel
theorem dX3_openAtFirst_15 : decode cX3_openAtFirst 15 = .ok (.invokevirtual 31, 3) := by decide +kernel
theorem dX3_openAtFirst_18 : decode cX3_openAtFirst 18 = .ok (.ifCond .le 17, 3) := by decide +kernel
theorem dX3_openAtFirst_21 : decode cX3_openAtFirst 21 = .ok (.aload_n 0, 1) := by decide +kernel
theorem dX3_openAtFirst_22 : decode cX3_openAtFirst 22 = .ok (.iload_n 2, 1) := by decide +kernel
theorem dX3_openAtFirst_23 : decode cX3_openAtFirst 23 = .ok (.iconst 0, 1) := by decide +kernel
theorem dX3_openAtFirst_24 : decode cX3_openAtFirst 24 = .ok (.invokevirtual 31, 3) := by decide +kernel
theorem dX3_openAtFirst_27 : decode cX3_openAtFirst 27 = .ok (.bipush 12, 2) := by decide +kernel
theorem dX3_openAtFirst_29 : decode cX3_openAtFirst 29 = .ok (.if_icmp .ge 6, 3) := by decide +kernel
theorem dX3_openAtFirst_32 : decode cX3_openAtFirst 32 = .ok (.iinc 1 1, 3) := by decide +kernel
theorem dX3_openAtFirst_35 : decode cX3_openAtFirst 35 = .ok (.iinc 2 1, 3) := by decide +kernel
theorem dX3_openAtFirst_38 : decode cX3_openAtFirst 38 = .ok (.goto (-34), 3) := by decide +kernel
theorem dX3_openAtFirst_41 : decode cX3_openAtFirst 41 = .ok (.iload_n 1, 1) := by decide +kernel
theorem dX3_openAtFirst_42 : decode cX3_openAtFirst 42 = .ok (.ireturn, 1) := by decide +kernel
theorem dX3_countUp_0 : decode cX3_countUp 0 = .ok (.lconst 0, 1) := by decide +kernel
theorem dX3_countUp_1 : decode cX3_countUp 1 = .ok (.lstore_n 3, 1) := by decide +kernel
theorem dX3_countUp_2 : decode cX3_countUp 2 = .ok (.iconst 0, 1) := by decide +kernel
theorem dX3_countUp_3 : decode cX3_countUp 3 = .ok (.istore 5, 2) := by decide +kernel
theorem dX3_countUp_5 : decode cX3_countUp 5 = .ok (.iload 5, 2) := by decide +kernel
theorem dX3_countUp_7 : decode cX3_countUp 7 = .ok (.aload_n 0, 1) := by decide +kernel
theorem dX3_countUp_8 : decode cX3_countUp 8 = .ok (.getfield 20, 3) := by decide +kernel
theorem dX3_countUp_11 : decode cX3_countUp 11 = .ok (.if_icmp .ge 51, 3) := by decide +kernel
theorem dX3_countUp_14 : decode cX3_countUp 14 = .ok (.aload_n 0, 1) := by decide +kernel
theorem dX3_countUp_15 : decode cX3_countUp 15 = .ok (.iload 5, 2) := by decide +kernel
theorem dX3_countUp_17 : decode cX3_countUp 17 = .ok (.iconst 0, 1) := by decide +kernel
theorem dX3_countUp_18 : decode cX3_countUp 18 = .ok (.invokevirtual 31, 3) := by decide +kernel
theorem dX3_countUp_21 : decode cX3_countUp 21 = .ok (.istore 6, 2) := by decide +kernel
theorem dX3_countUp_23 : decode cX3_countUp 23 = .ok (.iload_n 1, 1) := by decide +kernel
theorem dX3_countUp_24 : decode cX3_countUp 24 = .ok (.iload 5, 2) := by decide +kernel
theorem dX3_countUp_26 : decode cX3_countUp 26 = .ok (.ishr, 1) := by decide +kernel
theorem dX3_countUp_27 : decode cX3_countUp 27 = .ok (.iconst 1, 1) := by decide +kernel
theorem dX3_countUp_28 : decode cX3_countUp 28 = .ok (.iand, 1) := by decide +kernel
theorem dX3_countUp_29 : decode cX3_countUp 29 = .ok (.iconst 1, 1) := by decide +kernel
theorem dX3_countUp_30 : decode cX3_countUp 30 = .ok (.if_icmp .ne 26, 3) := by decide +kernel
theorem dX3_countUp_33 : decode cX3_countUp 33 = .ok (.iload 6, 2) := by decide +kernel
theorem dX3_countUp_35 : decode cX3_countUp 35 = .ok (.ifCond .le 21, 3) := by decide +kernel
theorem dX3_countUp_38 : decode cX3_countUp 38 = .ok (.lload_n 3, 1) := by decide +kernel
theorem dX3_countUp_39 : decode cX3_countUp 39 = .ok (.aload_n 0, 1) := by decide +kernel
theorem dX3_countUp_40 : decode cX3_countUp 40 = .ok (.iload 5, 2) := by decide +kernel
theorem dX3_countUp_42 : decode cX3_countUp 42 = .ok (.iload_n 2, 1) := by decide +kernel
theorem dX3_countUp_43 : decode cX3_countUp 43 = .ok (.invokevirtual 31, 3) := by decide +kernel
theorem dX3_countUp_46 : decode cX3_countUp 46 = .ok (.i2l, 1) := by decide +kernel
theorem dX3_countUp_47 : decode cX3_countUp 47 = .ok (.ldc 41, 2) := by decide +kernel
theorem dX3_countUp_49 : decode cX3_countUp 49 = .ok (.iload 6, 2) := by decide +kernel
theorem dX3_countUp_51 : decode cX3_countUp 51 = .ok (.idiv, 1) := by decide +kernel
theorem dX3_countUp_52 : decode cX3_countUp 52 = .ok (.i2l, 1) := by decide +kernel
theorem dX3_countUp_53 : decode cX3_countUp 53 = .ok (.lmul, 1) := by decide +kernel
theorem dX3_countUp_54 : decode cX3_countUp 54 = .ok (.ladd, 1) := by decide +kernel
theorem dX3_countUp_55 : decode cX3_countUp 55 = .ok (.lstore_n 3, 1) := by decide +kernel
theorem dX3_countUp_56 : decode cX3_countUp 56 = .ok (.iinc 5 1, 3) := by decide +kernel
theorem dX3_countUp_59 : decode cX3_countUp 59 = .ok (.goto (-54), 3) := by decide +kernel
theorem dX3_countUp_62 : decode cX3_countUp 62 = .ok (.lload_n 3, 1) := by decide +kernel
theorem dX3_countUp_63 : decode cX3_countUp 63 = .ok (.lreturn, 1) := by decide +kernel
theorem dX3_miss_0 : decode cX3_miss 0 = .ok (.aload_n 0, 1) := by decide +kernel
theorem dX3_miss_1 : decode cX3_miss 1 = .ok (.iload_n 1, 1) := by decide +kernel
theorem dX3_miss_2 : decode cX3_miss 2 = .ok (.iconst 3, 1) := by decide +kernel
theorem dX3_miss_3 : decode cX3_miss 3 = .ok (.invokevirtual 42, 3) := by decide +kernel
theorem dX3_miss_6 : decode cX3_miss 6 = .ok (.aload_n 0, 1) := by decide +kernel
theorem dX3_miss_7 : decode cX3_miss 7 = .ok (.iconst 3, 1) := by decide +kernel
theorem dX3_miss_8 : decode cX3_miss 8 = .ok (.invokevirtual 46, 3) := by decide +kernel
theorem dX3_miss_11 : decode cX3_miss 11 = .ok (.i2l, 1) := by decide +kernel
theorem dX3_miss_12 : decode cX3_miss 12 = .ok (.ldc2_w 49, 3) := by decide +kernel
theorem dX3_miss_15 : decode cX3_miss 15 = .ok (.lmul, 1) := by decide +kernel
theorem dX3_miss_16 : decode cX3_miss 16 = .ok (.lsub, 1) := by decide +kernel
theorem dX3_miss_17 : decode cX3_miss 17 = .ok (.invokestatic 51, 3) := by decide +kernel
theorem dX3_miss_20 : decode cX3_miss 20 = .ok (.lreturn, 1) := by decide +kernel
theorem dX4_init_0 : decode cX4_init 0 = .ok (.aload_n 0, 1) := by decide +kernel
theorem dX4_init_1 : decode cX4_init 1 = .ok (.invokespecial 5, 3) := by decide +kernel
theorem dX4_init_4 : decode cX4_init 4 = .ok (.aload_n 0, 1) := by decide +kernel
theorem dX4_init_5 : decode cX4_init 5 = .ok (.bipush 120, 2) := by decide +kernel
theorem dX4_init_7 : decode cX4_init 7 = .ok (.newarray .byte, 2) := by decide +kernel
theorem dX4_init_9 : decode cX4_init 9 = .ok (.putfield 11, 3) := by decide +kernel
theorem dX4_init_12 : decode cX4_init 12 = .ok (.aload_n 0, 1) := by decide +kernel
theorem dX4_init_13 : decode cX4_init 13 = .ok (.bipush 30, 2) := by decide +kernel
theorem dX4_init_15 : decode cX4_init 15 = .ok (.newarray .int, 2) := by decide +kernel
theorem dX4_init_17 : decode cX4_init 17 = .ok (.putfield 15, 3) := by decide +kernel
theorem dX4_init_20 : decode cX4_init 20 = .ok (.aload_n 0, 1) := by decide +kernel
theorem dX4_init_21 : decode cX4_init 21 = .ok (.sipush 150, 3) := by decide +kernel
theorem dX4_init_24 : decode cX4_init 24 = .ok (.newarray .int, 2) := by decide +kernel
theorem dX4_init_26 : decode cX4_init 26 = .ok (.putfield 19, 3) := by decide +kernel
theorem dX4_init_29 : decode cX4_init 29 = .ok (.return_, 1) := by decide +kernel
theorem dX4_word_0 : decode cX4_word 0 = .ok (.iload_n 0, 1) := by decide +kernel
theorem dX4_word_1 : decode cX4_word 1 = .ok (.tableswitch 106 0 12 #[67, 70, 73, 76, 79, 82, 85, 88, 91, 94, 97, 100, 103], 67) := by decide +kernel
theorem dX4_word_68 : decode cX4_word 68 = .ok (.ldc 22, 2) := by decide +kernel
theorem dX4_word_70 : decode cX4_word 70 = .ok (.areturn, 1) := by decide +kernel
theorem dX4_word_71 : decode cX4_word 71 = .ok (.ldc 24, 2) := by decide +kernel
theorem dX4_word_73 : decode cX4_word 73 = .ok (.areturn, 1) := by decide +kernel
theorem dX4_word_74 : decode cX4_word 74 = .ok (.ldc 26, 2) := by decide +kernel
theorem dX4_word_76 : decode cX4_word 76 = .ok (.areturn, 1) := by decide +kernel
theorem dX4_word_77 : decode cX4_word 77 = .ok (.ldc 28, 2) := by decide +kernel
theorem dX4_word_79 : decode cX4_word 79 = .ok (.areturn, 1) := by decide +kernel
theorem dX4_word_80 : decode cX4_word 80 = .ok (.ldc 30, 2) := by decide +kernel
theorem dX4_word_82 : decode cX4_word 82 = .ok (.areturn, 1) := by decide +kernel
theorem dX4_word_83 : decode cX4_word 83 = .ok (.ldc 32, 2) := by decide +kernel
theorem dX4_word_85 : decode cX4_word 85 = .ok (.areturn, 1) := by decide +kernel
theorem dX4_word_86 : decode cX4_word 86 = .ok (.ldc 34, 2) := by decide +kernel
theorem dX4_word_88 : decode cX4_word 88 = .ok (.areturn, 1) := by decide +kernel
theorem dX4_word_89 : decode cX4_word 89 = .ok (.ldc 36, 2) := by decide +kernel
theorem dX4_word_91 : decode cX4_word 91 = .ok (.areturn, 1) := by decide +kernel
theorem dX4_word_92 : decode cX4_word 92 = .ok (.ldc 38, 2) := by decide +kernel
theorem dX4_word_94 : decode cX4_word 94 = .ok (.areturn, 1) := by decide +kernel
theorem dX4_word_95 : decode cX4_word 95 = .ok (.ldc 40, 2) := by decide +kernel
theorem dX4_word_97 : decode cX4_word 97 = .ok (.areturn, 1) := by decide +kernel
theorem dX4_word_98 : decode cX4_word 98 = .ok (.ldc 42, 2) := by decide +kernel
theorem dX4_word_100 : decode cX4_word 100 = .ok (.areturn, 1) := by decide +kernel
theorem dX4_word_101 : decode cX4_word 101 = .ok (.ldc 44, 2) := by decide +kernel
theorem dX4_word_103 : decode cX4_word 103 = .ok (.areturn, 1) := by decide +kernel
theorem dX4_word_104 : decode cX4_word 104 = .ok (.ldc 46, 2) := by decide +kernel
theorem dX4_word_106 : decode cX4_word 106 = .ok (.areturn, 1) := by decide +kernel
theorem dX4_word_107 : decode cX4_word 107 = .ok (.ldc 48, 2) := by decide +kernel
theorem dX4_word_109 : decode cX4_word 109 = .ok (.areturn, 1) := by decide +kernel
theorem dX4_numbersBehind_0 : decode cX4_numbersBehind 0 = .ok (.iload_n 0, 1) := by decide +kernel
theorem dX4_numbersBehind_1 : decode cX4_numbersBehind 1 = .ok (.iconst 5, 1) := by decide +kernel
theorem dX4_numbersBehind_2 : decode cX4_numbersBehind 2 = .ok (.if_icmp .lt 9, 3) := by decide +kernel
theorem dX4_numbersBehind_5 : decode cX4_numbersBehind 5 = .ok (.iload_n 0, 1) := by decide +kernel
theorem dX4_numbersBehind_6 : decode cX4_numbersBehind 6 = .ok (.bipush 12, 2) := by decide +kernel
theorem dX4_numbersBehind_8 : decode cX4_numbersBehind 8 = .ok (.if_icmp .ne 5, 3) := by decide +kernel
theorem dX4_numbersBehind_11 : decode cX4_numbersBehind 11 = .ok (.iconst 0, 1) := by decide +kernel
theorem dX4_numbersBehind_12 : decode cX4_numbersBehind 12 = .ok (.ireturn, 1) := by decide +kernel
theorem dX4_numbersBehind_13 : decode cX4_numbersBehind 13 = .ok (.iload_n 0, 1) := by decide +kernel
theorem dX4_numbersBehind_14 : decode cX4_numbersBehind 14 = .ok (.iconst 5, 1) := by decide +kernel
theorem dX4_numbersBehind_15 : decode cX4_numbersBehind 15 = .ok (.if_icmp .ne 5, 3) := by decide +kernel
theorem dX4_numbersBehind_18 : decode cX4_numbersBehind 18 = .ok (.iconst 5, 1) := by decide +kernel
theorem dX4_numbersBehind_19 : decode cX4_numbersBehind 19 = .ok (.ireturn, 1) := by decide +kernel
theorem dX4_numbersBehind_20 : decode cX4_numbersBehind 20 = .ok (.iload_n 0, 1) := by decide +kernel
theorem dX4_numbersBehind_21 : decode cX4_numbersBehind 21 = .ok (.bipush 11, 2) := by decide +kernel
theorem dX4_numbersBehind_23 : decode cX4_numbersBehind 23 = .ok (.if_icmp .ne 7, 3) := by decide +kernel
theorem dX4_numbersBehind_26 : decode cX4_numbersBehind 26 = .ok (.iconst 1, 1) := by decide +kernel
theorem dX4_numbersBehind_27 : decode cX4_numbersBehind 27 = .ok (.goto 4, 3) := by decide +kernel
theorem dX4_numbersBehind_30 : decode cX4_numbersBehind 30 = .ok (.iconst 2, 1) := by decide +kernel
theorem dX4_numbersBehind_31 : decode cX4_numbersBehind 31 = .ok (.ireturn, 1) := by decide +kernel
theorem dX4_append_0 : decode cX4_append 0 = .ok (.aload_n 0, 1) := by decide +kernel
theorem dX4_append_1 : decode cX4_append 1 = .ok (.getfield 50, 3) := by decide +kernel
theorem dX4_append_4 : decode cX4_append 4 = .ok (.bipush 120, 2) := by decide +kernel
theorem dX4_append_6 : decode cX4_append 6 = .ok (.if_icmp .ge 24, 3) := by decide +kernel
theorem dX4_append_9 : decode cX4_append 9 = .ok (.aload_n 0, 1) := by decide +kernel
theorem dX4_append_10 : decode cX4_append 10 = .ok (.getfield 11, 3) := by decide +kernel
theorem dX4_append_13 : decode cX4_append 13 = .ok (.aload_n 0, 1) := by decide +kernel
theorem dX4_append_14 : decode cX4_append 14 = .ok (.getfield 50, 3) := by decide +kernel
theorem dX4_append_17 : decode cX4_append 17 = .ok (.iload_n 1, 1) := by decide +kernel
theorem dX4_append_18 : decode cX4_append 18 = .ok (.i2b, 1) := by decide +kernel
theorem dX4_append_19 : decode cX4_append 19 = .ok (.bastore, 1) := by decide +kernel
theorem dX4_append_20 : decode cX4_append 20 = .ok (.aload_n 0, 1) := by decide +kernel
theorem dX4_append_21 : decode cX4_append 21 = .ok (.dup, 1) := by decide +kernel
theorem dX4_append_22 : decode cX4_append 22 = .ok (.getfield 50, 3) := by decide +kernel
theorem dX4_append_25 : decode cX4_append 25 = .ok (.iconst 1, 1) := by decide +kernel
theorem dX4_append_26 : decode cX4_append 26 = .ok (.iadd, 1) := by decide +kernel
theorem dX4_append_27 : decode cX4_append 27 = .ok (.putfield 50, 3) := by decide +kernel
theorem dX4_append_30 : decode cX4_append 30 = .ok (.aload_n 0, 1) := by decide +kernel
theorem dX4_append_31 : decode cX4_append 31 = .ok (.getfield 50, 3) := by decide +kernel
theorem dX4_append_34 : decode cX4_append 34 = .ok (.ireturn, 1) := by decide +kernel
theorem dX4_verb_0 : decode cX4_verb 0 = .ok (.iload_n 1, 1) := by decide +kernel
theorem dX4_verb_1 : decode cX4_verb 1 = .ok (.ifCond .lt 26, 3) := by decide +kernel
theorem dX4_verb_4 : decode cX4_verb 4 = .ok (.iload_n 1, 1) := by decide +kernel
theorem dX4_verb_5 : decode cX4_verb 5 = .ok (.aload_n 0, 1) := by decide +kernel
theorem dX4_verb_6 : decode cX4_verb 6 = .ok (.getfield 54, 3) := by decide +kernel
theorem dX4_verb_9 : decode cX4_verb 9 = .ok (.if_icmp .ge 18, 3) := by decide +kernel
theorem dX4_verb_12 : decode cX4_verb 12 = .ok (.iload_n 1, 1) := by decide +kernel
theorem dX4_verb_13 : decode cX4_verb 13 = .ok (.bipush 30, 2) := by decide +kernel
theorem dX4_verb_15 : decode cX4_verb 15 = .ok (.if_icmp .ge 12, 3) := by decide +kernel
theorem dX4_verb_18 : decode cX4_verb 18 = .ok (.aload_n 0, 1) := by decide +kernel
theorem dX4_verb_19 : decode cX4_verb 19 = .ok (.getfield 15, 3) := by decide +kernel
theorem dX4_verb_22 : decode cX4_verb 22 = .ok (.iload_n 1, 1) := by decide +kernel
theorem dX4_verb_23 : decode cX4_verb 23 = .ok (.iaload, 1) := by decide +kernel
theorem dX4_verb_24 : decode cX4_verb 24 = .ok (.goto 5, 3) := by decide +kernel
theorem dX4_verb_27 : decode cX4_verb 27 = .ok (.bipush 12, 2) := by decide +kernel
theorem dX4_verb_29 : decode cX4_verb 29 = .ok (.ireturn, 1) := by decide +kernel
theorem dX4_number_0 : decode cX4_number 0 = .ok (.iload_n 1, 1) := by decide +kernel
theorem dX4_number_1 : decode cX4_number 1 = .ok (.iconst 5, 1) := by decide +kernel
theorem dX4_number_2 : decode cX4_number 2 = .ok (.imul, 1) := by decide +kernel
theorem dX4_number_3 : decode cX4_number 3 = .ok (.iload_n 2, 1) := by decide +kernel
theorem dX4_number_4 : decode cX4_number 4 = .ok (.iadd, 1) := by decide +kernel
theorem dX4_number_5 : decode cX4_number 5 = .ok (.istore_n 3, 1) := by decide +kernel
theorem dX4_number_6 : decode cX4_number 6 = .ok (.iload_n 3, 1) := by decide +kernel
theorem dX4_number_7 : decode cX4_number 7 = .ok (.ifCond .lt 21, 3) := by decide +kernel
theorem dX4_number_10 : decode cX4_number 10 = .ok (.iload_n 3, 1) := by decide +kernel
theorem dX4_number_11 : decode cX4_number 11 = .ok (.aload_n 0, 1) := by decide +kernel
theorem dX4_number_12 : decode cX4_number 12 = .ok (.getfield 19, 3) := by decide +kernel
theorem dX4_number_15 : decode cX4_number 15 = .ok (.arraylength, 1) := by decide +kernel
theorem dX4_number_16 : decode cX4_number 16 = .ok (.if_icmp .ge 12, 3) := by decide +kernel
theorem dX4_number_19 : decode cX4_number 19 = .ok (.aload_n 0, 1) := by decide +kernel
theorem dX4_number_20 : decode cX4_number 20 = .ok (.getfield 19, 3) := by decide +kernel
theorem dX4_number_23 : decode cX4_number 23 = .ok (.iload_n 3, 1) := by decide +kernel
theorem dX4_number_24 : decode cX4_number 24 = .ok (.iaload, 1) := by decide +kernel
theorem dX4_number_25 : decode cX4_number 25 = .ok (.goto 4, 3) := by decide +kernel
theorem dX4_number_28 : decode cX4_number 28 = .ok (.iconst 0, 1) := by decide +kernel
theorem dX4_number_29 : decode cX4_number 29 = .ok (.ireturn, 1) := by decide +kernel
theorem dX4_read_0 : decode cX4_read 0 = .ok (.aload_n 0, 1) := by decide +kernel
theorem dX4_read_1 : decode cX4_read 1 = .ok (.iconst 0, 1) := by decide +kernel
theorem dX4_read_2 : decode cX4_read 2 = .ok (.putfield 54, 3) := by decide +kernel
theorem dX4_read_5 : decode cX4_read 5 = .ok (.aload_n 0, 1) := by decide +kernel
theorem dX4_read_6 : decode cX4_read 6 = .ok (.iload_n 1, 1) := by decide +kernel
theorem dX4_read_7 : decode cX4_read 7 = .ok (.putfield 57, 3) := by decide +kernel
theorem dX4_read_10 : decode cX4_read 10 = .ok (.aload_n 0, 1) := by decide +kernel
theorem dX4_read_11 : decode cX4_read 11 = .ok (.iconst 0, 1) := by decide +kernel
theorem dX4_read_12 : decode cX4_read 12 = .ok (.putfield 60, 3) := by decide +kernel
theorem dX4_read_15 : decode cX4_read 15 = .ok (.iconst 0, 1) := by decide +kernel
theorem dX4_read_16 : decode cX4_read 16 = .ok (.istore_n 2, 1) := by decide +kernel
theorem dX4_read_17 : decode cX4_read 17 = .ok (.iload_n 2, 1) := by decide +kernel
theorem dX4_read_18 : decode cX4_read 18 = .ok (.bipush 30, 2) := by decide +kernel
theorem dX4_read_20 : decode cX4_read 20 = .ok (.if_icmp .gt 52, 3) := by decide +kernel
theorem dX4_read_23 : decode cX4_read 23 = .ok (.aload_n 0, 1) := by decide +kernel
theorem dX4_read_24 : decode cX4_read 24 = .ok (.invokevirtual 63, 3) := by decide +kernel
theorem dX4_read_27 : decode cX4_read 27 = .ok (.aload_n 0, 1) := by decide +kernel
theorem dX4_read_28 : decode cX4_read 28 = .ok (.getfield 60, 3) := by decide +kernel
theorem dX4_read_31 : decode cX4_read 31 = .ok (.aload_n 0, 1) := by decide +kernel
theorem dX4_read_32 : decode cX4_read 32 = .ok (.getfield 50, 3) := by decide +kernel
theorem dX4_read_35 : decode cX4_read 35 = .ok (.if_icmp .lt 19, 3) := by decide +kernel
theorem dX4_read_38 : decode cX4_read 38 = .ok (.aload_n 0, 1) := by decide +kernel
theorem dX4_read_39 : decode cX4_read 39 = .ok (.getfield 54, 3) := by decide +kernel
theorem dX4_read_42 : decode cX4_read 42 = .ok (.ifCond .ne 10, 3) := by decide +kernel
theorem dX4_read_45 : decode cX4_read 45 = .ok (.aload_n 0, 1) := by decide +kernel
theorem dX4_read_46 : decode cX4_read 46 = .ok (.getfield 50, 3) := by decide +kernel
theorem dX4_read_49 : decode cX4_read 49 = .ok (.goto 4, 3) := by decide +kernel
theorem dX4_read_52 : decode cX4_read 52 = .ok (.iconst (-1), 1) := by decide +kernel
theorem dX4_read_53 : decode cX4_read 53 = .ok (.ireturn, 1) := by decide +kernel
theorem dX4_read_54 : decode cX4_read 54 = .ok (.aload_n 0, 1) := by decide +kernel
theorem dX4_read_55 : decode cX4_read 55 = .ok (.invokevirtual 66, 3) := by decide +kernel
theorem dX4_read_58 : decode cX4_read 58 = .ok (.istore_n 3, 1) := by decide +kernel
theorem dX4_read_59 : decode cX4_read 59 = .ok (.iload_n 3, 1) := by decide +kernel
theorem dX4_read_60 : decode cX4_read 60 = .ok (.iconst (-1), 1) := by decide +kernel
theorem dX4_read_61 : decode cX4_read 61 = .ok (.if_icmp .eq 5, 3) := by decide +kernel
theorem dX4_read_64 : decode cX4_read 64 = .ok (.iload_n 3, 1) := by decide +kernel
theorem dX4_read_65 : decode cX4_read 65 = .ok (.ireturn, 1) := by decide +kernel
theorem dX4_read_66 : decode cX4_read 66 = .ok (.iinc 2 1, 3) := by decide +kernel
theorem dX4_read_69 : decode cX4_read 69 = .ok (.goto (-52), 3) := by decide +kernel
theorem dX4_read_72 : decode cX4_read 72 = .ok (.aload_n 0, 1) := by decide +kernel
theorem dX4_read_73 : decode cX4_read 73 = .ok (.getfield 60, 3) := by decide +kernel
theorem dX4_read_76 : decode cX4_read 76 = .ok (.ireturn, 1) := by decide +kernel
theorem dX4_readSentence_0 : decode cX4_readSentence 0 = .ok (.aload_n 0, 1) := by decide +kernel
theorem dX4_readSentence_1 : decode cX4_readSentence 1 = .ok (.getfield 60, 3) := by decide +kernel
theorem dX4_readSentence_4 : decode cX4_readSentence 4 = .ok (.istore_n 1, 1) := by decide +kernel
theorem dX4_readSentence_5 : decode cX4_readSentence 5 = .ok (.aload_n 0, 1) := by decide +kernel
theorem dX4_readSentence_6 : decode cX4_readSentence 6 = .ok (.invokevirtual 70, 3) := by decide +kernel
theorem dX4_readSentence_9 : decode cX4_readSentence 9 = .ok (.istore_n 2, 1) := by decide +kernel
theorem dX4_readSentence_10 : decode cX4_readSentence 10 = .ok (.iload_n 2, 1) := by decide +kernel
theorem dX4_readSentence_11 : decode cX4_readSentence 11 = .ok (.iconst (-1), 1) := by decide +kernel
theorem dX4_readSentence_12 : decode cX4_readSentence 12 = .ok (.if_icmp .eq 26, 3) := by decide +kernel
theorem dX4_readSentence_15 : decode cX4_readSentence 15 = .ok (.aload_n 0, 1) := by decide +kernel
theorem dX4_readSentence_16 : decode cX4_readSentence 16 = .ok (.getfield 54, 3) := by decide +kernel
theorem dX4_readSentence_19 : decode cX4_readSentence 19 = .ok (.bipush 30, 2) := by decide +kernel
theorem dX4_readSentence_21 : decode cX4_readSentence 21 = .ok (.if_icmp .ge 17, 3) := by decide +kernel
theorem dX4_readSentence_24 : decode cX4_readSentence 24 = .ok (.iload_n 2, 1) := by decide +kernel
theorem dX4_readSentence_25 : decode cX4_readSentence 25 = .ok (.iconst 5, 1) := by decide +kernel
theorem dX4_readSentence_26 : decode cX4_readSentence 26 = .ok (.if_icmp .ne 14, 3) := by decide +kernel
theorem dX4_readSentence_29 : decode cX4_readSentence 29 = .ok (.aload_n 0, 1) := by decide +kernel
theorem dX4_readSentence_30 : decode cX4_readSentence 30 = .ok (.getfield 57, 3) := by decide +kernel
theorem dX4_readSentence_33 : decode cX4_readSentence 33 = .ok (.bipush 12, 2) := by decide +kernel
theorem dX4_readSentence_35 : decode cX4_readSentence 35 = .ok (.if_icmp .lt 5, 3) := by decide +kernel
theorem dX4_readSentence_38 : decode cX4_readSentence 38 = .ok (.iload_n 1, 1) := by decide +kernel
theorem dX4_readSentence_39 : decode cX4_readSentence 39 = .ok (.ireturn, 1) := by decide +kernel
theorem dX4_readSentence_40 : decode cX4_readSentence 40 = .ok (.iconst 0, 1) := by decide +kernel
theorem dX4_readSentence_41 : decode cX4_readSentence 41 = .ok (.istore_n 3, 1) := by decide +kernel
theorem dX4_readSentence_42 : decode cX4_readSentence 42 = .ok (.iload_n 3, 1) := by decide +kernel
theorem dX4_readSentence_43 : decode cX4_readSentence 43 = .ok (.iload_n 2, 1) := by decide +kernel
theorem dX4_readSentence_44 : decode cX4_readSentence 44 = .ok (.invokestatic 73, 3) := by decide +kernel
theorem dX4_readSentence_47 : decode cX4_readSentence 47 = .ok (.if_icmp .ge 72, 3) := by decide +kernel
theorem dX4_readSentence_50 : decode cX4_readSentence 50 = .ok (.aload_n 0, 1) := by decide +kernel
theorem dX4_readSentence_51 : decode cX4_readSentence 51 = .ok (.invokevirtual 63, 3) := by decide +kernel
theorem dX4_readSentence_54 : decode cX4_readSentence 54 = .ok (.aload_n 0, 1) := by decide +kernel
theorem dX4_readSentence_55 : decode cX4_readSentence 55 = .ok (.getfield 60, 3) := by decide +kernel
theorem dX4_readSentence_58 : decode cX4_readSentence 58 = .ok (.istore 4, 2) := by decide +kernel
theorem dX4_readSentence_60 : decode cX4_readSentence 60 = .ok (.aload_n 0, 1) := by decide +kernel
theorem dX4_readSentence_61 : decode cX4_readSentence 61 = .ok (.iload_n 2, 1) := by decide +kernel
theorem dX4_readSentence_62 : decode cX4_readSentence 62 = .ok (.bipush 11, 2) := by decide +kernel
theorem dX4_readSentence_64 : decode cX4_readSentence 64 = .ok (.if_icmp .ne 8, 3) := by decide +kernel
theorem dX4_readSentence_67 : decode cX4_readSentence 67 = .ok (.bipush 6, 2) := by decide +kernel
theorem dX4_readSentence_69 : decode cX4_readSentence 69 = .ok (.goto 4, 3) := by decide +kernel
theorem dX4_readSentence_72 : decode cX4_readSentence 72 = .ok (.iconst 2, 1) := by decide +kernel
theorem dX4_readSentence_73 : decode cX4_readSentence 73 = .ok (.invokevirtual 77, 3) := by decide +kernel
theorem dX4_readSentence_76 : decode cX4_readSentence 76 = .ok (.istore 5, 2) := by decide +kernel
theorem dX4_readSentence_78 : decode cX4_readSentence 78 = .ok (.iload 5, 2) := by decide +kernel
theorem dX4_readSentence_80 : decode cX4_readSentence 80 = .ok (.iconst (-1), 1) := by decide +kernel
theorem dX4_readSentence_81 : decode cX4_readSentence 81 = .ok (.if_icmp .eq 14, 3) := by decide +kernel
theorem dX4_readSentence_84 : decode cX4_readSentence 84 = .ok (.aload_n 0, 1) := by decide +kernel
theorem dX4_readSentence_85 : decode cX4_readSentence 85 = .ok (.iload_n 2, 1) := by decide +kernel
theorem dX4_readSentence_86 : decode cX4_readSentence 86 = .ok (.iload_n 3, 1) := by decide +kernel
theorem dX4_readSentence_87 : decode cX4_readSentence 87 = .ok (.iload 5, 2) := by decide +kernel
theorem dX4_readSentence_89 : decode cX4_readSentence 89 = .ok (.invokevirtual 80, 3) := by decide +kernel
theorem dX4_readSentence_92 : decode cX4_readSentence 92 = .ok (.ifCond .ne 6, 3) := by decide +kernel
theorem dX4_readSentence_95 : decode cX4_readSentence 95 = .ok (.iload 4, 2) := by decide +kernel
theorem dX4_readSentence_97 : decode cX4_readSentence 97 = .ok (.ireturn, 1) := by decide +kernel
theorem dX4_readSentence_98 : decode cX4_readSentence 98 = .ok (.aload_n 0, 1) := by decide +kernel
theorem dX4_readSentence_99 : decode cX4_readSentence 99 = .ok (.getfield 19, 3) := by decide +kernel
theorem dX4_readSentence_102 : decode cX4_readSentence 102 = .ok (.aload_n 0, 1) := by decide +kernel
theorem dX4_readSentence_103 : decode cX4_readSentence 103 = .ok (.getfield 54, 3) := by decide +kernel
theorem dX4_readSentence_106 : decode cX4_readSentence 106 = .ok (.iconst 5, 1) := by decide +kernel
theorem dX4_readSentence_107 : decode cX4_readSentence 107 = .ok (.imul, 1) := by decide +kernel
theorem dX4_readSentence_108 : decode cX4_readSentence 108 = .ok (.iload_n 3, 1) := by decide +kernel
theorem dX4_readSentence_109 : decode cX4_readSentence 109 = .ok (.iadd, 1) := by decide +kernel
theorem dX4_readSentence_110 : decode cX4_readSentence 110 = .ok (.iload 5, 2) := by decide +kernel
theorem dX4_readSentence_112 : decode cX4_readSentence 112 = .ok (.iastore, 1) := by decide +kernel
theorem dX4_readSentence_113 : decode cX4_readSentence 113 = .ok (.iinc 3 1, 3) := by decide +kernel
theorem dX4_readSentence_116 : decode cX4_readSentence 116 = .ok (.goto (-74), 3) := by decide +kernel
theorem dX4_readSentence_119 : decode cX4_readSentence 119 = .ok (.aload_n 0, 1) := by decide +kernel
theorem dX4_readSentence_120 : decode cX4_readSentence 120 = .ok (.invokevirtual 63, 3) := by decide +kernel
theorem dX4_readSentence_123 : decode cX4_readSentence 123 = .ok (.aload_n 0, 1) := by decide +kernel
theorem dX4_readSentence_124 : decode cX4_readSentence 124 = .ok (.aload_n 0, 1) := by decide +kernel
theorem dX4_readSentence_125 : decode cX4_readSentence 125 = .ok (.getfield 60, 3) := by decide +kernel
theorem dX4_readSentence_128 : decode cX4_readSentence 128 = .ok (.invokevirtual 84, 3) := by decide +kernel
theorem dX4_readSentence_131 : decode cX4_readSentence 131 = .ok (.bipush 59, 2) := by decide +kernel
theorem dX4_readSentence_133 : decode cX4_readSentence 133 = .ok (.if_icmp .eq 8, 3) := by decide +kernel
theorem dX4_readSentence_136 : decode cX4_readSentence 136 = .ok (.aload_n 0, 1) := by decide +kernel
theorem dX4_readSentence_137 : decode cX4_readSentence 137 = .ok (.getfield 60, 3) := by decide +kernel
theorem dX4_readSentence_140 : decode cX4_readSentence 140 = .ok (.ireturn, 1) := by decide +kernel
theorem dX4_readSentence_141 : decode cX4_readSentence 141 = .ok (.aload_n 0, 1) := by decide +kernel
theorem dX4_readSentence_142 : decode cX4_readSentence 142 = .ok (.dup, 1) := by decide +kernel
theorem dX4_readSentence_143 : decode cX4_readSentence 143 = .ok (.getfield 60, 3) := by decide +kernel
theorem dX4_readSentence_146 : decode cX4_readSentence 146 = .ok (.iconst 1, 1) := by decide +kernel
theorem dX4_readSentence_147 : decode cX4_readSentence 147 = .ok (.iadd, 1) := by decide +kernel
theorem dX4_readSentence_148 : decode cX4_readSentence 148 = .ok (.putfield 60, 3) := by decide +kernel
theorem dX4_readSentence_151 : decode cX4_readSentence 151 = .ok (.aload_n 0, 1) := by decide +kernel
theorem dX4_readSentence_152 : decode cX4_readSentence 152 = .ok (.dup, 1) := by decide +kernel
theorem dX4_readSentence_153 : decode cX4_readSentence 153 = .ok (.getfield 57, 3) := by decide +kernel
theorem dX4_readSentence_156 : decode cX4_readSentence 156 = .ok (.iload_n 2, 1) := by decide +kernel
theorem dX4_readSentence_157 : decode cX4_readSentence 157 = .ok (.iconst 5, 1) := by decide +kernel
theorem dX4_readSentence_158 : decode cX4_readSentence 158 = .ok (.if_icmp .ne 7, 3) := by decide +kernel
theorem dX4_readSentence_161 : decode cX4_readSentence 161 = .ok (.iconst 1, 1) := by decide +kernel
theorem dX4_readSentence_162 : decode cX4_readSentence 162 = .ok (.goto 4, 3) := by decide +kernel
theorem dX4_readSentence_165 : decode cX4_readSentence 165 = .ok (.iconst 0, 1) := by decide +kernel
theorem dX4_readSentence_166 : decode cX4_readSentence 166 = .ok (.iadd, 1) := by decide +kernel
theorem dX4_readSentence_167 : decode cX4_readSentence 167 = .ok (.putfield 57, 3) := by decide +kernel
theorem dX4_readSentence_170 : decode cX4_readSentence 170 = .ok (.aload_n 0, 1) := by decide +kernel
theorem dX4_readSentence_171 : decode cX4_readSentence 171 = .ok (.getfield 15, 3) := by decide +kernel
theorem dX4_readSentence_174 : decode cX4_readSentence 174 = .ok (.aload_n 0, 1) := by decide +kernel
theorem dX4_readSentence_175 : decode cX4_readSentence 175 = .ok (.getfield 54, 3) := by decide +kernel
theorem dX4_readSentence_178 : decode cX4_readSentence 178 = .ok (.iload_n 2, 1) := by decide +kernel
theorem dX4_readSentence_179 : decode cX4_readSentence 179 = .ok (.iastore, 1) := by decide +kernel
theorem dX4_readSentence_180 : decode cX4_readSentence 180 = .ok (.aload_n 0, 1) := by decide +kernel
theorem dX4_readSentence_181 : decode cX4_readSentence 181 = .ok (.dup, 1) := by decide +kernel
theorem dX4_readSentence_182 : decode cX4_readSentence 182 = .ok (.getfield 54, 3) := by decide +kernel
theorem dX4_readSentence_185 : decode cX4_readSentence 185 = .ok (.iconst 1, 1) := by decide +kernel
theorem dX4_readSentence_186 : decode cX4_readSentence 186 = .ok (.iadd, 1) := by decide +kernel
theorem dX4_readSentence_187 : decode cX4_readSentence 187 = .ok (.putfield 54, 3) := by decide +kernel
theorem dX4_readSentence_190 : decode cX4_readSentence 190 = .ok (.iconst (-1), 1) := by decide +kernel
theorem dX4_readSentence_191 : decode cX4_readSentence 191 = .ok (.ireturn, 1) := by decide +kernel
theorem dX4_mayStand_0 : decode cX4_mayStand 0 = .ok (.iload_n 1, 1) := by decide +kernel
theorem dX4_mayStand_1 : decode cX4_mayStand 1 = .ok (.bipush 11, 2) := by decide +kernel
theorem dX4_mayStand_3 : decode cX4_mayStand 3 = .ok (.if_icmp .ne 8, 3) := by decide +kernel
theorem dX4_mayStand_6 : decode cX4_mayStand 6 = .ok (.iload_n 3, 1) := by decide +kernel
theorem dX4_mayStand_7 : decode cX4_mayStand 7 = .ok (.invokestatic 87, 3) := by decide +kernel
theorem dX4_mayStand_10 : decode cX4_mayStand 10 = .ok (.ireturn, 1) := by decide +kernel
theorem dX4_mayStand_11 : decode cX4_mayStand 11 = .ok (.iload_n 1, 1) := by decide +kernel
theorem dX4_mayStand_12 : decode cX4_mayStand 12 = .ok (.iconst 5, 1) := by decide +kernel
theorem dX4_mayStand_13 : decode cX4_mayStand 13 = .ok (.if_icmp .ne 9, 3) := by decide +kernel
theorem dX4_mayStand_16 : decode cX4_mayStand 16 = .ok (.iload_n 2, 1) := by decide +kernel
theorem dX4_mayStand_17 : decode cX4_mayStand 17 = .ok (.iload_n 3, 1) := by decide +kernel
theorem dX4_mayStand_18 : decode cX4_mayStand 18 = .ok (.invokestatic 91, 3) := by decide +kernel
theorem dX4_mayStand_21 : decode cX4_mayStand 21 = .ok (.ireturn, 1) := by decide +kernel
theorem dX4_mayStand_22 : decode cX4_mayStand 22 = .ok (.iload_n 2, 1) := by decide +kernel
theorem dX4_mayStand_23 : decode cX4_mayStand 23 = .ok (.ifCond .ne 19, 3) := by decide +kernel
theorem dX4_mayStand_26 : decode cX4_mayStand 26 = .ok (.iload_n 3, 1) := by decide +kernel
theorem dX4_mayStand_27 : decode cX4_mayStand 27 = .ok (.aload_n 0, 1) := by decide +kernel
theorem dX4_mayStand_28 : decode cX4_mayStand 28 = .ok (.getfield 57, 3) := by decide +kernel
theorem dX4_mayStand_31 : decode cX4_mayStand 31 = .ok (.if_icmp .ge 7, 3) := by decide +kernel
theorem dX4_mayStand_34 : decode cX4_mayStand 34 = .ok (.iconst 1, 1) := by decide +kernel
theorem dX4_mayStand_35 : decode cX4_mayStand 35 = .ok (.goto 15, 3) := by decide +kernel
theorem dX4_mayStand_38 : decode cX4_mayStand 38 = .ok (.iconst 0, 1) := by decide +kernel
theorem dX4_mayStand_39 : decode cX4_mayStand 39 = .ok (.goto 11, 3) := by decide +kernel
theorem dX4_mayStand_42 : decode cX4_mayStand 42 = .ok (.iload_n 1, 1) := by decide +kernel
theorem dX4_mayStand_43 : decode cX4_mayStand 43 = .ok (.bipush 6, 2) := by decide +kernel
theorem dX4_mayStand_45 : decode cX4_mayStand 45 = .ok (.isub, 1) := by decide +kernel
theorem dX4_mayStand_46 : decode cX4_mayStand 46 = .ok (.iload_n 3, 1) := by decide +kernel
theorem dX4_mayStand_47 : decode cX4_mayStand 47 = .ok (.invokestatic 91, 3) := by decide +kernel
theorem dX4_mayStand_50 : decode cX4_mayStand 50 = .ok (.ireturn, 1) := by decide +kernel
theorem dX4_byteAt_0 : decode cX4_byteAt 0 = .ok (.iload_n 1, 1) := by decide +kernel
theorem dX4_byteAt_1 : decode cX4_byteAt 1 = .ok (.ifCond .lt 26, 3) := by decide +kernel
theorem dX4_byteAt_4 : decode cX4_byteAt 4 = .ok (.iload_n 1, 1) := by decide +kernel
theorem dX4_byteAt_5 : decode cX4_byteAt 5 = .ok (.aload_n 0, 1) := by decide +kernel
theorem dX4_byteAt_6 : decode cX4_byteAt 6 = .ok (.getfield 50, 3) := by decide +kernel
theorem dX4_byteAt_9 : decode cX4_byteAt 9 = .ok (.if_icmp .ge 18, 3) := by decide +kernel
theorem dX4_byteAt_12 : decode cX4_byteAt 12 = .ok (.iload_n 1, 1) := by decide +kernel
theorem dX4_byteAt_13 : decode cX4_byteAt 13 = .ok (.bipush 120, 2) := by decide +kernel
theorem dX4_byteAt_15 : decode cX4_byteAt 15 = .ok (.if_icmp .ge 12, 3) := by decide +kernel
theorem dX4_byteAt_18 : decode cX4_byteAt 18 = .ok (.aload_n 0, 1) := by decide +kernel
theorem dX4_byteAt_19 : decode cX4_byteAt 19 = .ok (.getfield 11, 3) := by decide +kernel
theorem dX4_byteAt_22 : decode cX4_byteAt 22 = .ok (.iload_n 1, 1) := by decide +kernel
theorem dX4_byteAt_23 : decode cX4_byteAt 23 = .ok (.baload, 1) := by decide +kernel
theorem dX4_byteAt_24 : decode cX4_byteAt 24 = .ok (.goto 4, 3) := by decide +kernel
theorem dX4_byteAt_27 : decode cX4_byteAt 27 = .ok (.iconst (-1), 1) := by decide +kernel
theorem dX4_byteAt_28 : decode cX4_byteAt 28 = .ok (.ireturn, 1) := by decide +kernel
theorem dX4_skipBlanks_0 : decode cX4_skipBlanks 0 = .ok (.iconst 0, 1) := by decide +kernel
theorem dX4_skipBlanks_1 : decode cX4_skipBlanks 1 = .ok (.istore_n 1, 1) := by decide +kernel
theorem dX4_skipBlanks_2 : decode cX4_skipBlanks 2 = .ok (.iload_n 1, 1) := by decide +kernel
theorem dX4_skipBlanks_3 : decode cX4_skipBlanks 3 = .ok (.bipush 120, 2) := by decide +kernel
theorem dX4_skipBlanks_5 : decode cX4_skipBlanks 5 = .ok (.if_icmp .ge 32, 3) := by decide +kernel
theorem dX4_skipBlanks_8 : decode cX4_skipBlanks 8 = .ok (.aload_n 0, 1) := by decide +kernel
theorem dX4_skipBlanks_9 : decode cX4_skipBlanks 9 = .ok (.aload_n 0, 1) := by decide +kernel
theorem dX4_skipBlanks_10 : decode cX4_skipBlanks 10 = .ok (.getfield 60, 3) := by decide +kernel
theorem dX4_skipBlanks_13 : decode cX4_skipBlanks 13 = .ok (.invokevirtual 84, 3) := by decide +kernel
theorem dX4_skipBlanks_16 : decode cX4_skipBlanks 16 = .ok (.bipush 32, 2) := by decide +kernel
theorem dX4_skipBlanks_18 : decode cX4_skipBlanks 18 = .ok (.if_icmp .ne 19, 3) := by decide +kernel
theorem dX4_skipBlanks_21 : decode cX4_skipBlanks 21 = .ok (.aload_n 0, 1) := by decide +kernel
theorem dX4_skipBlanks_22 : decode cX4_skipBlanks 22 = .ok (.dup, 1) := by decide +kernel
theorem dX4_skipBlanks_23 : decode cX4_skipBlanks 23 = .ok (.getfield 60, 3) := by decide +kernel
theorem dX4_skipBlanks_26 : decode cX4_skipBlanks 26 = .ok (.iconst 1, 1) := by decide +kernel
theorem dX4_skipBlanks_27 : decode cX4_skipBlanks 27 = .ok (.iadd, 1) := by decide +kernel
theorem dX4_skipBlanks_28 : decode cX4_skipBlanks 28 = .ok (.putfield 60, 3) := by decide +kernel
theorem dX4_skipBlanks_31 : decode cX4_skipBlanks 31 = .ok (.iinc 1 1, 3) := by decide +kernel
theorem dX4_skipBlanks_34 : decode cX4_skipBlanks 34 = .ok (.goto (-32), 3) := by decide +kernel
theorem dX4_skipBlanks_37 : decode cX4_skipBlanks 37 = .ok (.return_, 1) := by decide +kernel
theorem dX4_readWord_0 : decode cX4_readWord 0 = .ok (.aload_n 0, 1) := by decide +kernel
theorem dX4_readWord_1 : decode cX4_readWord 1 = .ok (.getfield 60, 3) := by decide +kernel
theorem dX4_readWord_4 : decode cX4_readWord 4 = .ok (.istore_n 1, 1) := by decide +kernel
theorem dX4_readWord_5 : decode cX4_readWord 5 = .ok (.iconst 0, 1) := by decide +kernel
theorem dX4_readWord_6 : decode cX4_readWord 6 = .ok (.istore_n 2, 1) := by decide +kernel
theorem dX4_readWord_7 : decode cX4_readWord 7 = .ok (.iload_n 2, 1) := by decide +kernel
theorem dX4_readWord_8 : decode cX4_readWord 8 = .ok (.bipush 120, 2) := by decide +kernel
theorem dX4_readWord_10 : decode cX4_readWord 10 = .ok (.if_icmp .ge 45, 3) := by decide +kernel
theorem dX4_readWord_13 : decode cX4_readWord 13 = .ok (.aload_n 0, 1) := by decide +kernel
theorem dX4_readWord_14 : decode cX4_readWord 14 = .ok (.aload_n 0, 1) := by decide +kernel
theorem dX4_readWord_15 : decode cX4_readWord 15 = .ok (.getfield 60, 3) := by decide +kernel
theorem dX4_readWord_18 : decode cX4_readWord 18 = .ok (.invokevirtual 84, 3) := by decide +kernel
theorem dX4_readWord_21 : decode cX4_readWord 21 = .ok (.bipush 97, 2) := by decide +kernel
theorem dX4_readWord_23 : decode cX4_readWord 23 = .ok (.if_icmp .lt 32, 3) := by decide +kernel
theorem dX4_readWord_26 : decode cX4_readWord 26 = .ok (.aload_n 0, 1) := by decide +kernel
theorem dX4_readWord_27 : decode cX4_readWord 27 = .ok (.aload_n 0, 1) := by decide +kernel
theorem dX4_readWord_28 : decode cX4_readWord 28 = .ok (.getfield 60, 3) := by decide +kernel
theorem dX4_readWord_31 : decode cX4_readWord 31 = .ok (.invokevirtual 84, 3) := by decide +kernel
theorem dX4_readWord_34 : decode cX4_readWord 34 = .ok (.bipush 122, 2) := by decide +kernel
theorem dX4_readWord_36 : decode cX4_readWord 36 = .ok (.if_icmp .gt 19, 3) := by decide +kernel
theorem dX4_readWord_39 : decode cX4_readWord 39 = .ok (.aload_n 0, 1) := by decide +kernel
theorem dX4_readWord_40 : decode cX4_readWord 40 = .ok (.dup, 1) := by decide +kernel
theorem dX4_readWord_41 : decode cX4_readWord 41 = .ok (.getfield 60, 3) := by decide +kernel
theorem dX4_readWord_44 : decode cX4_readWord 44 = .ok (.iconst 1, 1) := by decide +kernel
theorem dX4_readWord_45 : decode cX4_readWord 45 = .ok (.iadd, 1) := by decide +kernel
theorem dX4_readWord_46 : decode cX4_readWord 46 = .ok (.putfield 60, 3) := by decide +kernel
theorem dX4_readWord_49 : decode cX4_readWord 49 = .ok (.iinc 2 1, 3) := by decide +kernel
theorem dX4_readWord_52 : decode cX4_readWord 52 = .ok (.goto (-45), 3) := by decide +kernel
theorem dX4_readWord_55 : decode cX4_readWord 55 = .ok (.iconst 0, 1) := by decide +kernel
theorem dX4_readWord_56 : decode cX4_readWord 56 = .ok (.istore_n 2, 1) := by decide +kernel
theorem dX4_readWord_57 : decode cX4_readWord 57 = .ok (.iload_n 2, 1) := by decide +kernel
theorem dX4_readWord_58 : decode cX4_readWord 58 = .ok (.bipush 13, 2) := by decide +kernel
theorem dX4_readWord_60 : decode cX4_readWord 60 = .ok (.if_icmp .ge 27, 3) := by decide +kernel
theorem dX4_readWord_63 : decode cX4_readWord 63 = .ok (.aload_n 0, 1) := by decide +kernel
theorem dX4_readWord_64 : decode cX4_readWord 64 = .ok (.iload_n 2, 1) := by decide +kernel
theorem dX4_readWord_65 : decode cX4_readWord 65 = .ok (.invokestatic 97, 3) := by decide +kernel
theorem dX4_readWord_68 : decode cX4_readWord 68 = .ok (.iload_n 1, 1) := by decide +kernel
theorem dX4_readWord_69 : decode cX4_readWord 69 = .ok (.aload_n 0, 1) := by decide +kernel
theorem dX4_readWord_70 : decode cX4_readWord 70 = .ok (.getfield 60, 3) := by decide +kernel
theorem dX4_readWord_73 : decode cX4_readWord 73 = .ok (.invokevirtual 101, 3) := by decide +kernel
theorem dX4_readWord_76 : decode cX4_readWord 76 = .ok (.ifCond .eq 5, 3) := by decide +kernel
theorem dX4_readWord_79 : decode cX4_readWord 79 = .ok (.iload_n 2, 1) := by decide +kernel
theorem dX4_readWord_80 : decode cX4_readWord 80 = .ok (.ireturn, 1) := by decide +kernel
theorem dX4_readWord_81 : decode cX4_readWord 81 = .ok (.iinc 2 1, 3) := by decide +kernel
theorem dX4_readWord_84 : decode cX4_readWord 84 = .ok (.goto (-27), 3) := by decide +kernel
theorem dX4_readWord_87 : decode cX4_readWord 87 = .ok (.iconst (-1), 1) := by decide +kernel
theorem dX4_readWord_88 : decode cX4_readWord 88 = .ok (.ireturn, 1) := by decide +kernel
theorem dX4_stands_0 : decode cX4_stands 0 = .ok (.aload_n 1, 1) := by decide +kernel
theorem dX4_stands_1 : decode cX4_stands 1 = .ok (.invokevirtual 105, 3) := by decide +kernel
theorem dX4_stands_4 : decode cX4_stands 4 = .ok (.iload_n 3, 1) := by decide +kernel
theorem dX4_stands_5 : decode cX4_stands 5 = .ok (.iload_n 2, 1) := by decide +kernel
theorem dX4_stands_6 : decode cX4_stands 6 = .ok (.isub, 1) := by decide +kernel
theorem dX4_stands_7 : decode cX4_stands 7 = .ok (.if_icmp .eq 5, 3) := by decide +kernel
theorem dX4_stands_10 : decode cX4_stands 10 = .ok (.iconst 0, 1) := by decide +kernel
theorem dX4_stands_11 : decode cX4_stands 11 = .ok (.ireturn, 1) := by decide +kernel
theorem dX4_stands_12 : decode cX4_stands 12 = .ok (.iconst 0, 1) := by decide +kernel
theorem dX4_stands_13 : decode cX4_stands 13 = .ok (.istore 4, 2) := by decide +kernel
theorem dX4_stands_15 : decode cX4_stands 15 = .ok (.iload 4, 2) := by decide +kernel
theorem dX4_stands_17 : decode cX4_stands 17 = .ok (.aload_n 1, 1) := by decide +kernel
theorem dX4_stands_18 : decode cX4_stands 18 = .ok (.invokevirtual 105, 3) := by decide +kernel
theorem dX4_stands_21 : decode cX4_stands 21 = .ok (.if_icmp .ge 28, 3) := by decide +kernel
theorem dX4_stands_24 : decode cX4_stands 24 = .ok (.aload_n 0, 1) := by decide +kernel
theorem dX4_stands_25 : decode cX4_stands 25 = .ok (.iload_n 2, 1) := by decide +kernel
theorem dX4_stands_26 : decode cX4_stands 26 = .ok (.iload 4, 2) := by decide +kernel
theorem dX4_stands_28 : decode cX4_stands 28 = .ok (.iadd, 1) := by decide +kernel
theorem dX4_stands_29 : decode cX4_stands 29 = .ok (.invokevirtual 84, 3) := by decide +kernel
theorem dX4_stands_32 : decode cX4_stands 32 = .ok (.aload_n 1, 1) := by decide +kernel
theorem dX4_stands_33 : decode cX4_stands 33 = .ok (.iload 4, 2) := by decide +kernel
theorem dX4_stands_35 : decode cX4_stands 35 = .ok (.invokevirtual 109, 3) := by decide +kernel
theorem dX4_stands_38 : decode cX4_stands 38 = .ok (.if_icmp .eq 5, 3) := by decide +kernel
theorem dX4_stands_41 : decode cX4_stands 41 = .ok (.iconst 0, 1) := by decide +kernel
theorem dX4_stands_42 : decode cX4_stands 42 = .ok (.ireturn, 1) := by decide +kernel
theorem dX4_stands_43 : decode cX4_stands 43 = .ok (.iinc 4 1, 3) := by decide +kernel
theorem dX4_stands_46 : decode cX4_stands 46 = .ok (.goto (-31), 3) := by decide +kernel
theorem dX4_stands_49 : decode cX4_stands 49 = .ok (.iconst 1, 1) := by decide +kernel
theorem dX4_stands_50 : decode cX4_stands 50 = .ok (.ireturn, 1) := by decide +kernel
theorem dX4_readNumber_0 : decode cX4_readNumber 0 = .ok (.iconst 0, 1) := by decide +kernel
theorem dX4_readNumber_1 : decode cX4_readNumber 1 = .ok (.istore_n 2, 1) := by decide +kernel
theorem dX4_readNumber_2 : decode cX4_readNumber 2 = .ok (.iconst 0, 1) := by decide +kernel
theorem dX4_readNumber_3 : decode cX4_readNumber 3 = .ok (.istore_n 3, 1) := by decide +kernel
theorem dX4_readNumber_4 : decode cX4_readNumber 4 = .ok (.iconst 0, 1) := by decide +kernel
theorem dX4_readNumber_5 : decode cX4_readNumber 5 = .ok (.istore 4, 2) := by decide +kernel
theorem dX4_readNumber_7 : decode cX4_readNumber 7 = .ok (.iload 4, 2) := by decide +kernel
theorem dX4_readNumber_9 : decode cX4_readNumber 9 = .ok (.iload_n 1, 1) := by decide +kernel
theorem dX4_readNumber_10 : decode cX4_readNumber 10 = .ok (.if_icmp .gt 65, 3) := by decide +kernel
theorem dX4_readNumber_13 : decode cX4_readNumber 13 = .ok (.aload_n 0, 1) := by decide +kernel
theorem dX4_readNumber_14 : decode cX4_readNumber 14 = .ok (.aload_n 0, 1) := by decide +kernel
theorem dX4_readNumber_15 : decode cX4_readNumber 15 = .ok (.getfield 60, 3) := by decide +kernel
theorem dX4_readNumber_18 : decode cX4_readNumber 18 = .ok (.invokevirtual 84, 3) := by decide +kernel
theorem dX4_readNumber_21 : decode cX4_readNumber 21 = .ok (.bipush 48, 2) := by decide +kernel
theorem dX4_readNumber_23 : decode cX4_readNumber 23 = .ok (.if_icmp .lt 52, 3) := by decide +kernel
theorem dX4_readNumber_26 : decode cX4_readNumber 26 = .ok (.aload_n 0, 1) := by decide +kernel
theorem dX4_readNumber_27 : decode cX4_readNumber 27 = .ok (.aload_n 0, 1) := by decide +kernel
theorem dX4_readNumber_28 : decode cX4_readNumber 28 = .ok (.getfield 60, 3) := by decide +kernel
theorem dX4_readNumber_31 : decode cX4_readNumber 31 = .ok (.invokevirtual 84, 3) := by decide +kernel
theorem dX4_readNumber_34 : decode cX4_readNumber 34 = .ok (.bipush 57, 2) := by decide +kernel
theorem dX4_readNumber_36 : decode cX4_readNumber 36 = .ok (.if_icmp .gt 39, 3) := by decide +kernel
theorem dX4_readNumber_39 : decode cX4_readNumber 39 = .ok (.bipush 10, 2) := by decide +kernel
theorem dX4_readNumber_41 : decode cX4_readNumber 41 = .ok (.iload_n 2, 1) := by decide +kernel
theorem dX4_readNumber_42 : decode cX4_readNumber 42 = .ok (.imul, 1) := by decide +kernel
theorem dX4_readNumber_43 : decode cX4_readNumber 43 = .ok (.aload_n 0, 1) := by decide +kernel
theorem dX4_readNumber_44 : decode cX4_readNumber 44 = .ok (.aload_n 0, 1) := by decide +kernel
theorem dX4_readNumber_45 : decode cX4_readNumber 45 = .ok (.getfield 60, 3) := by decide +kernel
theorem dX4_readNumber_48 : decode cX4_readNumber 48 = .ok (.invokevirtual 84, 3) := by decide +kernel
theorem dX4_readNumber_51 : decode cX4_readNumber 51 = .ok (.iadd, 1) := by decide +kernel
theorem dX4_readNumber_52 : decode cX4_readNumber 52 = .ok (.bipush 48, 2) := by decide +kernel
theorem dX4_readNumber_54 : decode cX4_readNumber 54 = .ok (.isub, 1) := by decide +kernel
theorem dX4_readNumber_55 : decode cX4_readNumber 55 = .ok (.istore_n 2, 1) := by decide +kernel
theorem dX4_readNumber_56 : decode cX4_readNumber 56 = .ok (.iinc 3 1, 3) := by decide +kernel
theorem dX4_readNumber_59 : decode cX4_readNumber 59 = .ok (.aload_n 0, 1) := by decide +kernel
theorem dX4_readNumber_60 : decode cX4_readNumber 60 = .ok (.dup, 1) := by decide +kernel
theorem dX4_readNumber_61 : decode cX4_readNumber 61 = .ok (.getfield 60, 3) := by decide +kernel
theorem dX4_readNumber_64 : decode cX4_readNumber 64 = .ok (.iconst 1, 1) := by decide +kernel
theorem dX4_readNumber_65 : decode cX4_readNumber 65 = .ok (.iadd, 1) := by decide +kernel
theorem dX4_readNumber_66 : decode cX4_readNumber 66 = .ok (.putfield 60, 3) := by decide +kernel
theorem dX4_readNumber_69 : decode cX4_readNumber 69 = .ok (.iinc 4 1, 3) := by decide +kernel
theorem dX4_readNumber_72 : decode cX4_readNumber 72 = .ok (.goto (-65), 3) := by decide +kernel
theorem dX4_readNumber_75 : decode cX4_readNumber 75 = .ok (.iload_n 3, 1) := by decide +kernel
theorem dX4_readNumber_76 : decode cX4_readNumber 76 = .ok (.ifCond .eq 8, 3) := by decide +kernel
theorem dX4_readNumber_79 : decode cX4_readNumber 79 = .ok (.iload_n 3, 1) := by decide +kernel
theorem dX4_readNumber_80 : decode cX4_readNumber 80 = .ok (.iload_n 1, 1) := by decide +kernel
theorem dX4_readNumber_81 : decode cX4_readNumber 81 = .ok (.if_icmp .le 7, 3) := by decide +kernel
theorem dX4_readNumber_84 : decode cX4_readNumber 84 = .ok (.iconst (-1), 1) := by decide +kernel
theorem dX4_readNumber_85 : decode cX4_readNumber 85 = .ok (.goto 4, 3) := by decide +kernel
theorem dX4_readNumber_88 : decode cX4_readNumber 88 = .ok (.iload_n 2, 1) := by decide +kernel
theorem dX4_readNumber_89 : decode cX4_readNumber 89 = .ok (.ireturn, 1) := by decide +kernel
theorem dX5_init_0 : decode cX5_init 0 = .ok (.aload_n 0, 1) := by decide +kernel
theorem dX5_init_1 : decode cX5_init 1 = .ok (.invokespecial 1, 3) := by decide +kernel
theorem dX5_init_4 : decode cX5_init 4 = .ok (.aload_n 0, 1) := by decide +kernel
theorem dX5_init_5 : decode cX5_init 5 = .ok (.new 7, 3) := by decide +kernel
theorem dX5_init_8 : decode cX5_init 8 = .ok (.dup, 1) := by decide +kernel
theorem dX5_init_9 : decode cX5_init 9 = .ok (.invokespecial 9, 3) := by decide +kernel
theorem dX5_init_12 : decode cX5_init 12 = .ok (.putfield 10, 3) := by decide +kernel
theorem dX5_init_15 : decode cX5_init 15 = .ok (.aload_n 0, 1) := by decide +kernel
theorem dX5_init_16 : decode cX5_init 16 = .ok (.new 16, 3) := by decide +kernel
theorem dX5_init_19 : decode cX5_init 19 = .ok (.dup, 1) := by decide +kernel
theorem dX5_init_20 : decode cX5_init 20 = .ok (.invokespecial 18, 3) := by decide +kernel
theorem dX5_init_23 : decode cX5_init 23 = .ok (.putfield 19, 3) := by decide +kernel
theorem dX5_init_26 : decode cX5_init 26 = .ok (.aload_n 0, 1) := by decide +kernel
theorem dX5_init_27 : decode cX5_init 27 = .ok (.new 16, 3) := by decide +kernel
theorem dX5_init_30 : decode cX5_init 30 = .ok (.dup, 1) := by decide +kernel
theorem dX5_init_31 : decode cX5_init 31 = .ok (.invokespecial 18, 3) := by decide +kernel
theorem dX5_init_34 : decode cX5_init 34 = .ok (.putfield 23, 3) := by decide +kernel
theorem dX5_init_37 : decode cX5_init 37 = .ok (.aload_n 0, 1) := by decide +kernel
theorem dX5_init_38 : decode cX5_init 38 = .ok (.new 26, 3) := by decide +kernel
theorem dX5_init_41 : decode cX5_init 41 = .ok (.dup, 1) := by decide +kernel
theorem dX5_init_42 : decode cX5_init 42 = .ok (.invokespecial 28, 3) := by decide +kernel
theorem dX5_init_45 : decode cX5_init 45 = .ok (.putfield 29, 3) := by decide +kernel
theorem dX5_init_48 : decode cX5_init 48 = .ok (.aload_n 0, 1) := by decide +kernel
theorem dX5_init_49 : decode cX5_init 49 = .ok (.new 33, 3) := by decide +kernel
theorem dX5_init_52 : decode cX5_init 52 = .ok (.dup, 1) := by decide +kernel
theorem dX5_init_53 : decode cX5_init 53 = .ok (.invokespecial 35, 3) := by decide +kernel
theorem dX5_init_56 : decode cX5_init 56 = .ok (.putfield 36, 3) := by decide +kernel
theorem dX5_init_59 : decode cX5_init 59 = .ok (.aload_n 0, 1) := by decide +kernel
theorem dX5_init_60 : decode cX5_init 60 = .ok (.new 40, 3) := by decide +kernel
theorem dX5_init_63 : decode cX5_init 63 = .ok (.dup, 1) := by decide +kernel
theorem dX5_init_64 : decode cX5_init 64 = .ok (.invokespecial 42, 3) := by decide +kernel
theorem dX5_init_67 : decode cX5_init 67 = .ok (.putfield 43, 3) := by decide +kernel
theorem dX5_init_70 : decode cX5_init 70 = .ok (.return_, 1) := by decide +kernel
theorem dX5_unit_0 : decode cX5_unit 0 = .ok (.iconst 0, 1) := by decide +kernel
theorem dX5_unit_1 : decode cX5_unit 1 = .ok (.iload_n 1, 1) := by decide +kernel
theorem dX5_unit_2 : decode cX5_unit 2 = .ok (.invokestatic 47, 3) := by decide +kernel
theorem dX5_unit_5 : decode cX5_unit 5 = .ok (.ifCond .eq 41, 3) := by decide +kernel
theorem dX5_unit_8 : decode cX5_unit 8 = .ok (.iconst 1, 1) := by decide +kernel
theorem dX5_unit_9 : decode cX5_unit 9 = .ok (.iload_n 2, 1) := by decide +kernel
theorem dX5_unit_10 : decode cX5_unit 10 = .ok (.invokestatic 47, 3) := by decide +kernel
theorem dX5_unit_13 : decode cX5_unit 13 = .ok (.ifCond .eq 33, 3) := by decide +kernel
theorem dX5_unit_16 : decode cX5_unit 16 = .ok (.iconst 2, 1) := by decide +kernel
theorem dX5_unit_17 : decode cX5_unit 17 = .ok (.iload_n 3, 1) := by decide +kernel
theorem dX5_unit_18 : decode cX5_unit 18 = .ok (.invokestatic 47, 3) := by decide +kernel
theorem dX5_unit_21 : decode cX5_unit 21 = .ok (.ifCond .eq 25, 3) := by decide +kernel
theorem dX5_unit_24 : decode cX5_unit 24 = .ok (.iconst 3, 1) := by decide +kernel
theorem dX5_unit_25 : decode cX5_unit 25 = .ok (.iload 4, 2) := by decide +kernel
theorem dX5_unit_27 : decode cX5_unit 27 = .ok (.invokestatic 47, 3) := by decide +kernel
theorem dX5_unit_30 : decode cX5_unit 30 = .ok (.ifCond .eq 16, 3) := by decide +kernel
theorem dX5_unit_33 : decode cX5_unit 33 = .ok (.iconst 4, 1) := by decide +kernel
theorem dX5_unit_34 : decode cX5_unit 34 = .ok (.iload 5, 2) := by decide +kernel
theorem dX5_unit_36 : decode cX5_unit 36 = .ok (.invokestatic 47, 3) := by decide +kernel
theorem dX5_unit_39 : decode cX5_unit 39 = .ok (.ifCond .eq 7, 3) := by decide +kernel
theorem dX5_unit_42 : decode cX5_unit 42 = .ok (.iconst 1, 1) := by decide +kernel
theorem dX5_unit_43 : decode cX5_unit 43 = .ok (.goto 4, 3) := by decide +kernel
theorem dX5_unit_46 : decode cX5_unit 46 = .ok (.iconst 0, 1) := by decide +kernel
theorem dX5_unit_47 : decode cX5_unit 47 = .ok (.istore 6, 2) := by decide +kernel
theorem dX5_unit_49 : decode cX5_unit 49 = .ok (.iload 6, 2) := by decide +kernel
theorem dX5_unit_51 : decode cX5_unit 51 = .ok (.ifCond .ne 10, 3) := by decide +kernel
theorem dX5_unit_54 : decode cX5_unit 54 = .ok (.aload_n 0, 1) := by decide +kernel
theorem dX5_unit_55 : decode cX5_unit 55 = .ok (.bipush (-2), 2) := by decide +kernel
theorem dX5_unit_57 : decode cX5_unit 57 = .ok (.invokevirtual 51, 3) := by decide +kernel
theorem dX5_unit_60 : decode cX5_unit 60 = .ok (.ireturn, 1) := by decide +kernel
theorem dX5_unit_61 : decode cX5_unit 61 = .ok (.aload_n 0, 1) := by decide +kernel
theorem dX5_unit_62 : decode cX5_unit 62 = .ok (.getfield 10, 3) := by decide +kernel
theorem dX5_unit_65 : decode cX5_unit 65 = .ok (.getfield 55, 3) := by decide +kernel
theorem dX5_unit_68 : decode cX5_unit 68 = .ok (.bipush 12, 2) := by decide +kernel
theorem dX5_unit_70 : decode cX5_unit 70 = .ok (.if_icmp .lt 10, 3) := by decide +kernel
theorem dX5_unit_73 : decode cX5_unit 73 = .ok (.aload_n 0, 1) := by decide +kernel
theorem dX5_unit_74 : decode cX5_unit 74 = .ok (.bipush (-4), 2) := by decide +kernel
theorem dX5_unit_76 : decode cX5_unit 76 = .ok (.invokevirtual 51, 3) := by decide +kernel
theorem dX5_unit_79 : decode cX5_unit 79 = .ok (.ireturn, 1) := by decide +kernel
theorem dX5_unit_80 : decode cX5_unit 80 = .ok (.aload_n 0, 1) := by decide +kernel
theorem dX5_unit_81 : decode cX5_unit 81 = .ok (.getfield 10, 3) := by decide +kernel
theorem dX5_unit_84 : decode cX5_unit 84 = .ok (.iload_n 1, 1) := by decide +kernel
theorem dX5_unit_85 : decode cX5_unit 85 = .ok (.iload_n 2, 1) := by decide +kernel
theorem dX5_unit_86 : decode cX5_unit 86 = .ok (.iload_n 3, 1) := by decide +kernel
theorem dX5_unit_87 : decode cX5_unit 87 = .ok (.iload 4, 2) := by decide +kernel
theorem dX5_unit_89 : decode cX5_unit 89 = .ok (.iload 5, 2) := by decide +kernel
theorem dX5_unit_91 : decode cX5_unit 91 = .ok (.invokevirtual 59, 3) := by decide +kernel
theorem dX5_unit_94 : decode cX5_unit 94 = .ok (.ireturn, 1) := by decide +kernel
theorem dX5_sets_0 : decode cX5_sets 0 = .ok (.aload_n 0, 1) := by decide +kernel
theorem dX5_sets_1 : decode cX5_sets 1 = .ok (.getfield 10, 3) := by decide +kernel
theorem dX5_sets_4 : decode cX5_sets 4 = .ok (.iload_n 1, 1) := by decide +kernel
theorem dX5_sets_5 : decode cX5_sets 5 = .ok (.invokevirtual 63, 3) := by decide +kernel
theorem dX5_sets_8 : decode cX5_sets 8 = .ok (.ifCond .eq 11, 3) := by decide +kernel
theorem dX5_sets_11 : decode cX5_sets 11 = .ok (.iload_n 2, 1) := by decide +kernel
theorem dX5_sets_12 : decode cX5_sets 12 = .ok (.iload_n 3, 1) := by decide +kernel
theorem dX5_sets_13 : decode cX5_sets 13 = .ok (.invokestatic 47, 3) := by decide +kernel
theorem dX5_sets_16 : decode cX5_sets 16 = .ok (.ifCond .ne 10, 3) := by decide +kernel
theorem dX5_sets_19 : decode cX5_sets 19 = .ok (.aload_n 0, 1) := by decide +kernel
theorem dX5_sets_20 : decode cX5_sets 20 = .ok (.bipush (-2), 2) := by decide +kernel
theorem dX5_sets_22 : decode cX5_sets 22 = .ok (.invokevirtual 51, 3) := by decide +kernel
theorem dX5_sets_25 : decode cX5_sets 25 = .ok (.ireturn, 1) := by decide +kernel
theorem dX5_sets_26 : decode cX5_sets 26 = .ok (.aload_n 0, 1) := by decide +kernel
theorem dX5_sets_27 : decode cX5_sets 27 = .ok (.getfield 10, 3) := by decide +kernel
theorem dX5_sets_30 : decode cX5_sets 30 = .ok (.iload_n 1, 1) := by decide +kernel
theorem dX5_sets_31 : decode cX5_sets 31 = .ok (.iload_n 2, 1) := by decide +kernel
theorem dX5_sets_32 : decode cX5_sets 32 = .ok (.iload_n 3, 1) := by decide +kernel
theorem dX5_sets_33 : decode cX5_sets 33 = .ok (.invokevirtual 67, 3) := by decide +kernel
theorem dX5_sets_36 : decode cX5_sets 36 = .ok (.ireturn, 1) := by decide +kernel
theorem dX5_empties_0 : decode cX5_empties 0 = .ok (.aload_n 0, 1) := by decide +kernel
theorem dX5_empties_1 : decode cX5_empties 1 = .ok (.getfield 10, 3) := by decide +kernel
theorem dX5_empties_4 : decode cX5_empties 4 = .ok (.getfield 55, 3) := by decide +kernel
theorem dX5_empties_7 : decode cX5_empties 7 = .ok (.istore_n 1, 1) := by decide +kernel
theorem dX5_empties_8 : decode cX5_empties 8 = .ok (.aload_n 0, 1) := by decide +kernel
theorem dX5_empties_9 : decode cX5_empties 9 = .ok (.getfield 10, 3) := by decide +kernel
theorem dX5_empties_12 : decode cX5_empties 12 = .ok (.invokevirtual 71, 3) := by decide +kernel
theorem dX5_empties_15 : decode cX5_empties 15 = .ok (.aload_n 0, 1) := by decide +kernel
theorem dX5_empties_16 : decode cX5_empties 16 = .ok (.getfield 19, 3) := by decide +kernel
theorem dX5_empties_19 : decode cX5_empties 19 = .ok (.invokevirtual 74, 3) := by decide +kernel
theorem dX5_empties_22 : decode cX5_empties 22 = .ok (.iload_n 1, 1) := by decide +kernel
theorem dX5_empties_23 : decode cX5_empties 23 = .ok (.ireturn, 1) := by decide +kernel
theorem dX5_draw_0 : decode cX5_draw 0 = .ok (.iload_n 1, 1) := by decide +kernel
theorem dX5_draw_1 : decode cX5_draw 1 = .ok (.invokestatic 77, 3) := by decide +kernel
theorem dX5_draw_4 : decode cX5_draw 4 = .ok (.ifCond .eq 13, 3) := by decide +kernel
theorem dX5_draw_7 : decode cX5_draw 7 = .ok (.iload_n 2, 1) := by decide +kernel
theorem dX5_draw_8 : decode cX5_draw 8 = .ok (.ifCond .lt 9, 3) := by decide +kernel
theorem dX5_draw_11 : decode cX5_draw 11 = .ok (.iload_n 2, 1) := by decide +kernel
theorem dX5_draw_12 : decode cX5_draw 12 = .ok (.bipush 12, 2) := by decide +kernel
theorem dX5_draw_14 : decode cX5_draw 14 = .ok (.if_icmp .le 10, 3) := by decide +kernel
theorem dX5_draw_17 : decode cX5_draw 17 = .ok (.aload_n 0, 1) := by decide +kernel
theorem dX5_draw_18 : decode cX5_draw 18 = .ok (.bipush (-2), 2) := by decide +kernel
theorem dX5_draw_20 : decode cX5_draw 20 = .ok (.invokevirtual 51, 3) := by decide +kernel
theorem dX5_draw_23 : decode cX5_draw 23 = .ok (.ireturn, 1) := by decide +kernel
theorem dX5_draw_24 : decode cX5_draw 24 = .ok (.aload_n 0, 1) := by decide +kernel
theorem dX5_draw_25 : decode cX5_draw 25 = .ok (.getfield 10, 3) := by decide +kernel
theorem dX5_draw_28 : decode cX5_draw 28 = .ok (.invokevirtual 71, 3) := by decide +kernel
theorem dX5_draw_31 : decode cX5_draw 31 = .ok (.aload_n 0, 1) := by decide +kernel
theorem dX5_draw_32 : decode cX5_draw 32 = .ok (.getfield 19, 3) := by decide +kernel
theorem dX5_draw_35 : decode cX5_draw 35 = .ok (.invokevirtual 74, 3) := by decide +kernel
theorem dX5_draw_38 : decode cX5_draw 38 = .ok (.iload_n 1, 1) := by decide +kernel
theorem dX5_draw_39 : decode cX5_draw 39 = .ok (.i2l, 1) := by decide +kernel
theorem dX5_draw_40 : decode cX5_draw 40 = .ok (.lstore_n 3, 1) := by decide +kernel
theorem dX5_draw_41 : decode cX5_draw 41 = .ok (.iconst 0, 1) := by decide +kernel
theorem dX5_draw_42 : decode cX5_draw 42 = .ok (.istore 5, 2) := by decide +kernel
theorem dX5_draw_44 : decode cX5_draw 44 = .ok (.iload 5, 2) := by decide +kernel
theorem dX5_draw_46 : decode cX5_draw 46 = .ok (.iload_n 2, 1) := by decide +kernel
theorem dX5_draw_47 : decode cX5_draw 47 = .ok (.if_icmp .ge 72, 3) := by decide +kernel
theorem dX5_draw_50 : decode cX5_draw 50 = .ok (.lload_n 3, 1) := by decide +kernel
theorem dX5_draw_51 : decode cX5_draw 51 = .ok (.invokestatic 80, 3) := by decide +kernel
theorem dX5_draw_54 : decode cX5_draw 54 = .ok (.lstore_n 3, 1) := by decide +kernel
theorem dX5_draw_55 : decode cX5_draw 55 = .ok (.aload_n 0, 1) := by decide +kernel
theorem dX5_draw_56 : decode cX5_draw 56 = .ok (.getfield 10, 3) := by decide +kernel
theorem dX5_draw_59 : decode cX5_draw 59 = .ok (.lload_n 3, 1) := by decide +kernel
theorem dX5_draw_60 : decode cX5_draw 60 = .ok (.ldc2_w 84, 3) := by decide +kernel
theorem dX5_draw_63 : decode cX5_draw 63 = .ok (.ldiv, 1) := by decide +kernel
theorem dX5_draw_64 : decode cX5_draw 64 = .ok (.ldc2_w 86, 3) := by decide +kernel
theorem dX5_draw_67 : decode cX5_draw 67 = .ok (.lrem, 1) := by decide +kernel
theorem dX5_draw_68 : decode cX5_draw 68 = .ok (.l2i, 1) := by decide +kernel
theorem dX5_draw_69 : decode cX5_draw 69 = .ok (.lload_n 3, 1) := by decide +kernel
theorem dX5_draw_70 : decode cX5_draw 70 = .ok (.ldc2_w 88, 3) := by decide +kernel
theorem dX5_draw_73 : decode cX5_draw 73 = .ok (.ldiv, 1) := by decide +kernel
theorem dX5_draw_74 : decode cX5_draw 74 = .ok (.ldc2_w 90, 3) := by decide +kernel
theorem dX5_draw_77 : decode cX5_draw 77 = .ok (.lrem, 1) := by decide +kernel
theorem dX5_draw_78 : decode cX5_draw 78 = .ok (.l2i, 1) := by decide +kernel
theorem dX5_draw_79 : decode cX5_draw 79 = .ok (.lload_n 3, 1) := by decide +kernel
theorem dX5_draw_80 : decode cX5_draw 80 = .ok (.ldc2_w 92, 3) := by decide +kernel
theorem dX5_draw_83 : decode cX5_draw 83 = .ok (.ldiv, 1) := by decide +kernel
theorem dX5_draw_84 : decode cX5_draw 84 = .ok (.ldc2_w 94, 3) := by decide +kernel
theorem dX5_draw_87 : decode cX5_draw 87 = .ok (.lrem, 1) := by decide +kernel
theorem dX5_draw_88 : decode cX5_draw 88 = .ok (.l2i, 1) := by decide +kernel
theorem dX5_draw_89 : decode cX5_draw 89 = .ok (.lload_n 3, 1) := by decide +kernel
theorem dX5_draw_90 : decode cX5_draw 90 = .ok (.ldc2_w 96, 3) := by decide +kernel
theorem dX5_draw_93 : decode cX5_draw 93 = .ok (.ldiv, 1) := by decide +kernel
theorem dX5_draw_94 : decode cX5_draw 94 = .ok (.ldc2_w 90, 3) := by decide +kernel
theorem dX5_draw_97 : decode cX5_draw 97 = .ok (.lrem, 1) := by decide +kernel
theorem dX5_draw_98 : decode cX5_draw 98 = .ok (.l2i, 1) := by decide +kernel
theorem dX5_draw_99 : decode cX5_draw 99 = .ok (.lload_n 3, 1) := by decide +kernel
theorem dX5_draw_100 : decode cX5_draw 100 = .ok (.ldc2_w 98, 3) := by decide +kernel
theorem dX5_draw_103 : decode cX5_draw 103 = .ok (.ldiv, 1) := by decide +kernel
theorem dX5_draw_104 : decode cX5_draw 104 = .ok (.ldc2_w 90, 3) := by decide +kernel
theorem dX5_draw_107 : decode cX5_draw 107 = .ok (.lrem, 1) := by decide +kernel
theorem dX5_draw_108 : decode cX5_draw 108 = .ok (.l2i, 1) := by decide +kernel
theorem dX5_draw_109 : decode cX5_draw 109 = .ok (.invokevirtual 59, 3) := by decide +kernel
theorem dX5_draw_112 : decode cX5_draw 112 = .ok (.pop, 1) := by decide +kernel
theorem dX5_draw_113 : decode cX5_draw 113 = .ok (.iinc 5 1, 3) := by decide +kernel
theorem dX5_draw_116 : decode cX5_draw 116 = .ok (.goto (-72), 3) := by decide +kernel
theorem dX5_draw_119 : decode cX5_draw 119 = .ok (.aload_n 0, 1) := by decide +kernel
theorem dX5_draw_120 : decode cX5_draw 120 = .ok (.getfield 10, 3) := by decide +kernel
theorem dX5_draw_123 : decode cX5_draw 123 = .ok (.iconst 0, 1) := by decide +kernel
theorem dX5_draw_124 : decode cX5_draw 124 = .ok (.invokevirtual 100, 3) := by decide +kernel
theorem dX5_draw_127 : decode cX5_draw 127 = .ok (.ireturn, 1) := by decide +kernel
theorem dX5_of_0 : decode cX5_of 0 = .ok (.aload_n 0, 1) := by decide +kernel
theorem dX5_of_1 : decode cX5_of 1 = .ok (.getfield 10, 3) := by decide +kernel
theorem dX5_of_4 : decode cX5_of 4 = .ok (.iload_n 1, 1) := by decide +kernel
theorem dX5_of_5 : decode cX5_of 5 = .ok (.invokevirtual 63, 3) := by decide +kernel
theorem dX5_of_8 : decode cX5_of 8 = .ok (.ifCond .eq 12, 3) := by decide +kernel
theorem dX5_of_11 : decode cX5_of 11 = .ok (.iload_n 2, 1) := by decide +kernel
theorem dX5_of_12 : decode cX5_of 12 = .ok (.ifCond .lt 8, 3) := by decide +kernel
theorem dX5_of_15 : decode cX5_of 15 = .ok (.iload_n 2, 1) := by decide +kernel
theorem dX5_of_16 : decode cX5_of 16 = .ok (.iconst 5, 1) := by decide +kernel
theorem dX5_of_17 : decode cX5_of 17 = .ok (.if_icmp .le 10, 3) := by decide +kernel
theorem dX5_of_20 : decode cX5_of 20 = .ok (.aload_n 0, 1) := by decide +kernel
theorem dX5_of_21 : decode cX5_of 21 = .ok (.bipush (-2), 2) := by decide +kernel
theorem dX5_of_23 : decode cX5_of 23 = .ok (.invokevirtual 51, 3) := by decide +kernel
theorem dX5_of_26 : decode cX5_of 26 = .ok (.ireturn, 1) := by decide +kernel
theorem dX5_of_27 : decode cX5_of 27 = .ok (.aload_n 0, 1) := by decide +kernel
theorem dX5_of_28 : decode cX5_of 28 = .ok (.iload_n 1, 1) := by decide +kernel
theorem dX5_of_29 : decode cX5_of 29 = .ok (.iload_n 2, 1) := by decide +kernel
theorem dX5_of_30 : decode cX5_of 30 = .ok (.invokevirtual 103, 3) := by decide +kernel
theorem dX5_of_33 : decode cX5_of 33 = .ok (.ireturn, 1) := by decide +kernel
theorem dX5_all_0 : decode cX5_all 0 = .ok (.iload_n 1, 1) := by decide +kernel
theorem dX5_all_1 : decode cX5_all 1 = .ok (.tableswitch 66 0 3 #[31, 40, 49, 58], 31) := by decide +kernel
theorem dX5_all_32 : decode cX5_all 32 = .ok (.aload_n 0, 1) := by decide +kernel
theorem dX5_all_33 : decode cX5_all 33 = .ok (.getfield 10, 3) := by decide +kernel
theorem dX5_all_36 : decode cX5_all 36 = .ok (.iconst 0, 1) := by decide +kernel
theorem dX5_all_37 : decode cX5_all 37 = .ok (.invokevirtual 100, 3) := by decide +kernel
theorem dX5_all_40 : decode cX5_all 40 = .ok (.ireturn, 1) := by decide +kernel
theorem dX5_all_41 : decode cX5_all 41 = .ok (.aload_n 0, 1) := by decide +kernel
theorem dX5_all_42 : decode cX5_all 42 = .ok (.getfield 10, 3) := by decide +kernel
theorem dX5_all_45 : decode cX5_all 45 = .ok (.iconst 3, 1) := by decide +kernel
theorem dX5_all_46 : decode cX5_all 46 = .ok (.invokevirtual 100, 3) := by decide +kernel
theorem dX5_all_49 : decode cX5_all 49 = .ok (.ireturn, 1) := by decide +kernel
theorem dX5_all_50 : decode cX5_all 50 = .ok (.aload_n 0, 1) := by decide +kernel
theorem dX5_all_51 : decode cX5_all 51 = .ok (.getfield 10, 3) := by decide +kernel
theorem dX5_all_54 : decode cX5_all 54 = .ok (.iconst 4, 1) := by decide +kernel
theorem dX5_all_55 : decode cX5_all 55 = .ok (.invokevirtual 100, 3) := by decide +kernel
theorem dX5_all_58 : decode cX5_all 58 = .ok (.ireturn, 1) := by decide +kernel
theorem dX5_all_59 : decode cX5_all 59 = .ok (.aload_n 0, 1) := by decide +kernel
theorem dX5_all_60 : decode cX5_all 60 = .ok (.getfield 10, 3) := by decide +kernel
theorem dX5_all_63 : decode cX5_all 63 = .ok (.invokevirtual 107, 3) := by decide +kernel
theorem dX5_all_66 : decode cX5_all 66 = .ok (.ireturn, 1) := by decide +kernel
theorem dX5_all_67 : decode cX5_all 67 = .ok (.aload_n 0, 1) := by decide +kernel
theorem dX5_all_68 : decode cX5_all 68 = .ok (.bipush (-2), 2) := by decide +kernel
theorem dX5_all_70 : decode cX5_all 70 = .ok (.invokevirtual 51, 3) := by decide +kernel
theorem dX5_all_73 : decode cX5_all 73 = .ok (.ireturn, 1) := by decide +kernel
theorem dX5_method_0 : decode cX5_method 0 = .ok (.iload_n 1, 1) := by decide +kernel
theorem dX5_method_1 : decode cX5_method 1 = .ok (.ifCond .lt 8, 3) := by decide +kernel
theorem dX5_method_4 : decode cX5_method 4 = .ok (.iload_n 1, 1) := by decide +kernel
theorem dX5_method_5 : decode cX5_method 5 = .ok (.iconst 5, 1) := by decide +kernel
theorem dX5_method_6 : decode cX5_method 6 = .ok (.if_icmp .lt 10, 3) := by decide +kernel
theorem dX5_method_9 : decode cX5_method 9 = .ok (.aload_n 0, 1) := by decide +kernel
theorem dX5_method_10 : decode cX5_method 10 = .ok (.bipush (-2), 2) := by decide +kernel
theorem dX5_method_12 : decode cX5_method 12 = .ok (.invokevirtual 51, 3) := by decide +kernel
theorem dX5_method_15 : decode cX5_method 15 = .ok (.ireturn, 1) := by decide +kernel
theorem dX5_method_16 : decode cX5_method 16 = .ok (.aload_n 0, 1) := by decide +kernel
theorem dX5_method_17 : decode cX5_method 17 = .ok (.iload_n 1, 1) := by decide +kernel
theorem dX5_method_18 : decode cX5_method 18 = .ok (.invokevirtual 111, 3) := by decide +kernel
theorem dX5_method_21 : decode cX5_method 21 = .ok (.ireturn, 1) := by decide +kernel
theorem dX5_walk_0 : decode cX5_walk 0 = .ok (.iload_n 1, 1) := by decide +kernel
theorem dX5_walk_1 : decode cX5_walk 1 = .ok (.invokestatic 77, 3) := by decide +kernel
theorem dX5_walk_4 : decode cX5_walk 4 = .ok (.ifCond .ne 10, 3) := by decide +kernel
theorem dX5_walk_7 : decode cX5_walk 7 = .ok (.aload_n 0, 1) := by decide +kernel
theorem dX5_walk_8 : decode cX5_walk 8 = .ok (.bipush (-2), 2) := by decide +kernel
theorem dX5_walk_10 : decode cX5_walk 10 = .ok (.invokevirtual 51, 3) := by decide +kernel
theorem dX5_walk_13 : decode cX5_walk 13 = .ok (.ireturn, 1) := by decide +kernel
theorem dX5_walk_14 : decode cX5_walk 14 = .ok (.aload_n 0, 1) := by decide +kernel
theorem dX5_walk_15 : decode cX5_walk 15 = .ok (.getfield 19, 3) := by decide +kernel
theorem dX5_walk_18 : decode cX5_walk 18 = .ok (.aload_n 0, 1) := by decide +kernel
theorem dX5_walk_19 : decode cX5_walk 19 = .ok (.getfield 10, 3) := by decide +kernel
theorem dX5_walk_22 : decode cX5_walk 22 = .ok (.aload_n 0, 1) := by decide +kernel
theorem dX5_walk_23 : decode cX5_walk 23 = .ok (.getfield 114, 3) := by decide +kernel
theorem dX5_walk_26 : decode cX5_walk 26 = .ok (.iload_n 1, 1) := by decide +kernel
theorem dX5_walk_27 : decode cX5_walk 27 = .ok (.invokevirtual 117, 3) := by decide +kernel
theorem dX5_walk_30 : decode cX5_walk 30 = .ok (.aload_n 0, 1) := by decide +kernel
theorem dX5_walk_31 : decode cX5_walk 31 = .ok (.getfield 19, 3) := by decide +kernel
theorem dX5_walk_34 : decode cX5_walk 34 = .ok (.getfield 121, 3) := by decide +kernel
theorem dX5_walk_37 : decode cX5_walk 37 = .ok (.invokestatic 124, 3) := by decide +kernel
theorem dX5_walk_40 : decode cX5_walk 40 = .ok (.ireturn, 1) := by decide +kernel
theorem dX5_was_0 : decode cX5_was 0 = .ok (.iload_n 1, 1) := by decide +kernel
theorem dX5_was_1 : decode cX5_was 1 = .ok (.ifCond .lt 8, 3) := by decide +kernel
theorem dX5_was_4 : decode cX5_was 4 = .ok (.iload_n 1, 1) := by decide +kernel
theorem dX5_was_5 : decode cX5_was 5 = .ok (.iconst 3, 1) := by decide +kernel
theorem dX5_was_6 : decode cX5_was 6 = .ok (.if_icmp .le 10, 3) := by decide +kernel
theorem dX5_was_9 : decode cX5_was 9 = .ok (.aload_n 0, 1) := by decide +kernel
theorem dX5_was_10 : decode cX5_was 10 = .ok (.bipush (-2), 2) := by decide +kernel
theorem dX5_was_12 : decode cX5_was 12 = .ok (.invokevirtual 51, 3) := by decide +kernel
theorem dX5_was_15 : decode cX5_was 15 = .ok (.ireturn, 1) := by decide +kernel
theorem dX5_was_16 : decode cX5_was 16 = .ok (.aload_n 0, 1) := by decide +kernel
theorem dX5_was_17 : decode cX5_was 17 = .ok (.getfield 19, 3) := by decide +kernel
theorem dX5_was_20 : decode cX5_was 20 = .ok (.iload_n 1, 1) := by decide +kernel
theorem dX5_was_21 : decode cX5_was 21 = .ok (.invokevirtual 129, 3) := by decide +kernel
theorem dX5_was_24 : decode cX5_was 24 = .ok (.ireturn, 1) := by decide +kernel
theorem dX5_play_0 : decode cX5_play 0 = .ok (.iload_n 1, 1) := by decide +kernel
theorem dX5_play_1 : decode cX5_play 1 = .ok (.ifCond .lt 12, 3) := by decide +kernel
theorem dX5_play_4 : decode cX5_play 4 = .ok (.iload_n 2, 1) := by decide +kernel
theorem dX5_play_5 : decode cX5_play 5 = .ok (.ifCond .lt 8, 3) := by decide +kernel
theorem dX5_play_8 : decode cX5_play 8 = .ok (.iload_n 2, 1) := by decide +kernel
theorem dX5_play_9 : decode cX5_play 9 = .ok (.iconst 2, 1) := by decide +kernel
theorem dX5_play_10 : decode cX5_play 10 = .ok (.if_icmp .le 10, 3) := by decide +kernel
theorem dX5_play_13 : decode cX5_play 13 = .ok (.aload_n 0, 1) := by decide +kernel
theorem dX5_play_14 : decode cX5_play 14 = .ok (.bipush (-2), 2) := by decide +kernel
theorem dX5_play_16 : decode cX5_play 16 = .ok (.invokevirtual 51, 3) := by decide +kernel
theorem dX5_play_19 : decode cX5_play 19 = .ok (.ireturn, 1) := by decide +kernel
theorem dX5_play_20 : decode cX5_play 20 = .ok (.aload_n 0, 1) := by decide +kernel
theorem dX5_play_21 : decode cX5_play 21 = .ok (.getfield 19, 3) := by decide +kernel
theorem dX5_play_24 : decode cX5_play 24 = .ok (.iload_n 1, 1) := by decide +kernel
theorem dX5_play_25 : decode cX5_play 25 = .ok (.iload_n 2, 1) := by decide +kernel
theorem dX5_play_26 : decode cX5_play 26 = .ok (.invokevirtual 132, 3) := by decide +kernel
theorem dX5_play_29 : decode cX5_play 29 = .ok (.ireturn, 1) := by decide +kernel
theorem dX5_counted_0 : decode cX5_counted 0 = .ok (.iload_n 1, 1) := by decide +kernel
theorem dX5_counted_1 : decode cX5_counted 1 = .ok (.tableswitch 74 0 2 #[27, 43, 59], 27) := by decide +kernel
theorem dX5_counted_28 : decode cX5_counted 28 = .ok (.aload_n 0, 1) := by decide +kernel
theorem dX5_counted_29 : decode cX5_counted 29 = .ok (.getfield 10, 3) := by decide +kernel
theorem dX5_counted_32 : decode cX5_counted 32 = .ok (.aload_n 0, 1) := by decide +kernel
theorem dX5_counted_33 : decode cX5_counted 33 = .ok (.getfield 19, 3) := by decide +kernel
theorem dX5_counted_36 : decode cX5_counted 36 = .ok (.getfield 121, 3) := by decide +kernel
theorem dX5_counted_39 : decode cX5_counted 39 = .ok (.iconst 4, 1) := by decide +kernel
theorem dX5_counted_40 : decode cX5_counted 40 = .ok (.invokevirtual 135, 3) := by decide +kernel
theorem dX5_counted_43 : decode cX5_counted 43 = .ok (.lreturn, 1) := by decide +kernel
theorem dX5_counted_44 : decode cX5_counted 44 = .ok (.aload_n 0, 1) := by decide +kernel
theorem dX5_counted_45 : decode cX5_counted 45 = .ok (.getfield 10, 3) := by decide +kernel
theorem dX5_counted_48 : decode cX5_counted 48 = .ok (.aload_n 0, 1) := by decide +kernel
theorem dX5_counted_49 : decode cX5_counted 49 = .ok (.getfield 19, 3) := by decide +kernel
theorem dX5_counted_52 : decode cX5_counted 52 = .ok (.getfield 121, 3) := by decide +kernel
theorem dX5_counted_55 : decode cX5_counted 55 = .ok (.iconst 3, 1) := by decide +kernel
theorem dX5_counted_56 : decode cX5_counted 56 = .ok (.invokevirtual 135, 3) := by decide +kernel
theorem dX5_counted_59 : decode cX5_counted 59 = .ok (.lreturn, 1) := by decide +kernel
theorem dX5_counted_60 : decode cX5_counted 60 = .ok (.aload_n 0, 1) := by decide +kernel
theorem dX5_counted_61 : decode cX5_counted 61 = .ok (.getfield 10, 3) := by decide +kernel
theorem dX5_counted_64 : decode cX5_counted 64 = .ok (.aload_n 0, 1) := by decide +kernel
theorem dX5_counted_65 : decode cX5_counted 65 = .ok (.getfield 19, 3) := by decide +kernel
theorem dX5_counted_68 : decode cX5_counted 68 = .ok (.getfield 121, 3) := by decide +kernel
theorem dX5_counted_71 : decode cX5_counted 71 = .ok (.invokevirtual 139, 3) := by decide +kernel
theorem dX5_counted_74 : decode cX5_counted 74 = .ok (.lreturn, 1) := by decide +kernel
theorem dX5_counted_75 : decode cX5_counted 75 = .ok (.aload_n 0, 1) := by decide +kernel
theorem dX5_counted_76 : decode cX5_counted 76 = .ok (.bipush (-2), 2) := by decide +kernel
theorem dX5_counted_78 : decode cX5_counted 78 = .ok (.invokevirtual 51, 3) := by decide +kernel
theorem dX5_counted_81 : decode cX5_counted 81 = .ok (.i2l, 1) := by decide +kernel
theorem dX5_counted_82 : decode cX5_counted 82 = .ok (.lreturn, 1) := by decide +kernel
theorem dX5_inside_0 : decode cX5_inside 0 = .ok (.iconst 2, 1) := by decide +kernel
theorem dX5_inside_1 : decode cX5_inside 1 = .ok (.iload_n 1, 1) := by decide +kernel
theorem dX5_inside_2 : decode cX5_inside 2 = .ok (.invokestatic 47, 3) := by decide +kernel
theorem dX5_inside_5 : decode cX5_inside 5 = .ok (.ifCond .ne 10, 3) := by decide +kernel
theorem dX5_inside_8 : decode cX5_inside 8 = .ok (.aload_n 0, 1) := by decide +kernel
theorem dX5_inside_9 : decode cX5_inside 9 = .ok (.bipush (-2), 2) := by decide +kernel
theorem dX5_inside_11 : decode cX5_inside 11 = .ok (.invokevirtual 51, 3) := by decide +kernel
theorem dX5_inside_14 : decode cX5_inside 14 = .ok (.ireturn, 1) := by decide +kernel
theorem dX5_inside_15 : decode cX5_inside 15 = .ok (.iconst 0, 1) := by decide +kernel
theorem dX5_inside_16 : decode cX5_inside 16 = .ok (.istore_n 2, 1) := by decide +kernel
theorem dX5_inside_17 : decode cX5_inside 17 = .ok (.iconst 0, 1) := by decide +kernel
theorem dX5_inside_18 : decode cX5_inside 18 = .ok (.istore_n 3, 1) := by decide +kernel
theorem dX5_inside_19 : decode cX5_inside 19 = .ok (.iload_n 3, 1) := by decide +kernel
theorem dX5_inside_20 : decode cX5_inside 20 = .ok (.aload_n 0, 1) := by decide +kernel
theorem dX5_inside_21 : decode cX5_inside 21 = .ok (.getfield 10, 3) := by decide +kernel
theorem dX5_inside_24 : decode cX5_inside 24 = .ok (.getfield 55, 3) := by decide +kernel
theorem dX5_inside_27 : decode cX5_inside 27 = .ok (.if_icmp .ge 36, 3) := by decide +kernel
theorem dX5_inside_30 : decode cX5_inside 30 = .ok (.aload_n 0, 1) := by decide +kernel
theorem dX5_inside_31 : decode cX5_inside 31 = .ok (.getfield 19, 3) := by decide +kernel
theorem dX5_inside_34 : decode cX5_inside 34 = .ok (.iload_n 3, 1) := by decide +kernel
theorem dX5_inside_35 : decode cX5_inside 35 = .ok (.invokevirtual 143, 3) := by decide +kernel
theorem dX5_inside_38 : decode cX5_inside 38 = .ok (.ifCond .eq 19, 3) := by decide +kernel
theorem dX5_inside_41 : decode cX5_inside 41 = .ok (.aload_n 0, 1) := by decide +kernel
theorem dX5_inside_42 : decode cX5_inside 42 = .ok (.getfield 10, 3) := by decide +kernel
theorem dX5_inside_45 : decode cX5_inside 45 = .ok (.iload_n 3, 1) := by decide +kernel
theorem dX5_inside_46 : decode cX5_inside 46 = .ok (.iconst 2, 1) := by decide +kernel
theorem dX5_inside_47 : decode cX5_inside 47 = .ok (.invokevirtual 146, 3) := by decide +kernel
theorem dX5_inside_50 : decode cX5_inside 50 = .ok (.iload_n 1, 1) := by decide +kernel
theorem dX5_inside_51 : decode cX5_inside 51 = .ok (.if_icmp .ne 6, 3) := by decide +kernel
theorem dX5_inside_54 : decode cX5_inside 54 = .ok (.iinc 2 1, 3) := by decide +kernel
theorem dX5_inside_57 : decode cX5_inside 57 = .ok (.iinc 3 1, 3) := by decide +kernel
theorem dX5_inside_60 : decode cX5_inside 60 = .ok (.goto (-41), 3) := by decide +kernel
theorem dX5_inside_63 : decode cX5_inside 63 = .ok (.iload_n 2, 1) := by decide +kernel
theorem dX5_inside_64 : decode cX5_inside 64 = .ok (.ireturn, 1) := by decide +kernel
theorem dX5_spread_0 : decode cX5_spread 0 = .ok (.iconst (-1), 1) := by decide +kernel
theorem dX5_spread_1 : decode cX5_spread 1 = .ok (.istore_n 1, 1) := by decide +kernel
theorem dX5_spread_2 : decode cX5_spread 2 = .ok (.iconst 0, 1) := by decide +kernel
theorem dX5_spread_3 : decode cX5_spread 3 = .ok (.istore_n 2, 1) := by decide +kernel
theorem dX5_spread_4 : decode cX5_spread 4 = .ok (.iload_n 2, 1) := by decide +kernel
theorem dX5_spread_5 : decode cX5_spread 5 = .ok (.aload_n 0, 1) := by decide +kernel
theorem dX5_spread_6 : decode cX5_spread 6 = .ok (.getfield 10, 3) := by decide +kernel
theorem dX5_spread_9 : decode cX5_spread 9 = .ok (.getfield 55, 3) := by decide +kernel
theorem dX5_spread_12 : decode cX5_spread 12 = .ok (.if_icmp .ge 80, 3) := by decide +kernel
theorem dX5_spread_15 : decode cX5_spread 15 = .ok (.iload_n 2, 1) := by decide +kernel
theorem dX5_spread_16 : decode cX5_spread 16 = .ok (.iconst 1, 1) := by decide +kernel
theorem dX5_spread_17 : decode cX5_spread 17 = .ok (.iadd, 1) := by decide +kernel
theorem dX5_spread_18 : decode cX5_spread 18 = .ok (.istore_n 3, 1) := by decide +kernel
theorem dX5_spread_19 : decode cX5_spread 19 = .ok (.iload_n 3, 1) := by decide +kernel
theorem dX5_spread_20 : decode cX5_spread 20 = .ok (.aload_n 0, 1) := by decide +kernel
theorem dX5_spread_21 : decode cX5_spread 21 = .ok (.getfield 10, 3) := by decide +kernel
theorem dX5_spread_24 : decode cX5_spread 24 = .ok (.getfield 55, 3) := by decide +kernel
theorem dX5_spread_27 : decode cX5_spread 27 = .ok (.if_icmp .ge 59, 3) := by decide +kernel
theorem dX5_spread_30 : decode cX5_spread 30 = .ok (.aload_n 0, 1) := by decide +kernel
theorem dX5_spread_31 : decode cX5_spread 31 = .ok (.getfield 19, 3) := by decide +kernel
theorem dX5_spread_34 : decode cX5_spread 34 = .ok (.iload_n 2, 1) := by decide +kernel
theorem dX5_spread_35 : decode cX5_spread 35 = .ok (.invokevirtual 143, 3) := by decide +kernel
theorem dX5_spread_38 : decode cX5_spread 38 = .ok (.ifCond .eq 42, 3) := by decide +kernel
theorem dX5_spread_41 : decode cX5_spread 41 = .ok (.aload_n 0, 1) := by decide +kernel
theorem dX5_spread_42 : decode cX5_spread 42 = .ok (.getfield 19, 3) := by decide +kernel
theorem dX5_spread_45 : decode cX5_spread 45 = .ok (.iload_n 3, 1) := by decide +kernel
theorem dX5_spread_46 : decode cX5_spread 46 = .ok (.invokevirtual 143, 3) := by decide +kernel
theorem dX5_spread_49 : decode cX5_spread 49 = .ok (.ifCond .eq 31, 3) := by decide +kernel
theorem dX5_spread_52 : decode cX5_spread 52 = .ok (.aload_n 0, 1) := by decide +kernel
theorem dX5_spread_53 : decode cX5_spread 53 = .ok (.getfield 10, 3) := by decide +kernel
theorem dX5_spread_56 : decode cX5_spread 56 = .ok (.iload_n 2, 1) := by decide +kernel
theorem dX5_spread_57 : decode cX5_spread 57 = .ok (.iload_n 3, 1) := by decide +kernel
theorem dX5_spread_58 : decode cX5_spread 58 = .ok (.invokevirtual 149, 3) := by decide +kernel
theorem dX5_spread_61 : decode cX5_spread 61 = .ok (.istore 4, 2) := by decide +kernel
theorem dX5_spread_63 : decode cX5_spread 63 = .ok (.iload_n 1, 1) := by decide +kernel
theorem dX5_spread_64 : decode cX5_spread 64 = .ok (.iconst (-1), 1) := by decide +kernel
theorem dX5_spread_65 : decode cX5_spread 65 = .ok (.if_icmp .ne 8, 3) := by decide +kernel
theorem dX5_spread_68 : decode cX5_spread 68 = .ok (.iload 4, 2) := by decide +kernel
theorem dX5_spread_70 : decode cX5_spread 70 = .ok (.goto 9, 3) := by decide +kernel
theorem dX5_spread_73 : decode cX5_spread 73 = .ok (.iload_n 1, 1) := by decide +kernel
theorem dX5_spread_74 : decode cX5_spread 74 = .ok (.iload 4, 2) := by decide +kernel
theorem dX5_spread_76 : decode cX5_spread 76 = .ok (.invokestatic 152, 3) := by decide +kernel
theorem dX5_spread_79 : decode cX5_spread 79 = .ok (.istore_n 1, 1) := by decide +kernel
theorem dX5_spread_80 : decode cX5_spread 80 = .ok (.iinc 3 1, 3) := by decide +kernel
theorem dX5_spread_83 : decode cX5_spread 83 = .ok (.goto (-64), 3) := by decide +kernel
theorem dX5_spread_86 : decode cX5_spread 86 = .ok (.iinc 2 1, 3) := by decide +kernel
theorem dX5_spread_89 : decode cX5_spread 89 = .ok (.goto (-85), 3) := by decide +kernel
theorem dX5_spread_92 : decode cX5_spread 92 = .ok (.iload_n 1, 1) := by decide +kernel
theorem dX5_spread_93 : decode cX5_spread 93 = .ok (.ireturn, 1) := by decide +kernel
theorem dX5_often_0 : decode cX5_often 0 = .ok (.aload_n 0, 1) := by decide +kernel
theorem dX5_often_1 : decode cX5_often 1 = .ok (.getfield 10, 3) := by decide +kernel
theorem dX5_often_4 : decode cX5_often 4 = .ok (.iload_n 1, 1) := by decide +kernel
theorem dX5_often_5 : decode cX5_often 5 = .ok (.invokevirtual 63, 3) := by decide +kernel
theorem dX5_often_8 : decode cX5_often 8 = .ok (.ifCond .eq 11, 3) := by decide +kernel
theorem dX5_often_11 : decode cX5_often 11 = .ok (.iload_n 2, 1) := by decide +kernel
theorem dX5_often_12 : decode cX5_often 12 = .ok (.iload_n 3, 1) := by decide +kernel
theorem dX5_often_13 : decode cX5_often 13 = .ok (.invokestatic 157, 3) := by decide +kernel
theorem dX5_often_16 : decode cX5_often 16 = .ok (.ifCond .ne 10, 3) := by decide +kernel
theorem dX5_often_19 : decode cX5_often 19 = .ok (.aload_n 0, 1) := by decide +kernel
theorem dX5_often_20 : decode cX5_often 20 = .ok (.bipush (-2), 2) := by decide +kernel
theorem dX5_often_22 : decode cX5_often 22 = .ok (.invokevirtual 51, 3) := by decide +kernel
theorem dX5_often_25 : decode cX5_often 25 = .ok (.ireturn, 1) := by decide +kernel
theorem dX5_often_26 : decode cX5_often 26 = .ok (.aload_n 0, 1) := by decide +kernel
theorem dX5_often_27 : decode cX5_often 27 = .ok (.iconst 1, 1) := by decide +kernel
theorem dX5_often_28 : decode cX5_often 28 = .ok (.iload_n 1, 1) := by decide +kernel
theorem dX5_often_29 : decode cX5_often 29 = .ok (.ishl, 1) := by decide +kernel
theorem dX5_often_30 : decode cX5_often 30 = .ok (.iload_n 2, 1) := by decide +kernel
theorem dX5_often_31 : decode cX5_often 31 = .ok (.iload_n 3, 1) := by decide +kernel
theorem dX5_often_32 : decode cX5_often 32 = .ok (.invokevirtual 160, 3) := by decide +kernel
theorem dX5_often_35 : decode cX5_often 35 = .ok (.ireturn, 1) := by decide +kernel
theorem dX5_both_0 : decode cX5_both 0 = .ok (.aload_n 0, 1) := by decide +kernel
theorem dX5_both_1 : decode cX5_both 1 = .ok (.getfield 10, 3) := by decide +kernel
theorem dX5_both_4 : decode cX5_both 4 = .ok (.iload_n 1, 1) := by decide +kernel
theorem dX5_both_5 : decode cX5_both 5 = .ok (.invokevirtual 63, 3) := by decide +kernel
theorem dX5_both_8 : decode cX5_both 8 = .ok (.ifCond .eq 28, 3) := by decide +kernel
theorem dX5_both_11 : decode cX5_both 11 = .ok (.aload_n 0, 1) := by decide +kernel
theorem dX5_both_12 : decode cX5_both 12 = .ok (.getfield 10, 3) := by decide +kernel
theorem dX5_both_15 : decode cX5_both 15 = .ok (.iload_n 2, 1) := by decide +kernel
theorem dX5_both_16 : decode cX5_both 16 = .ok (.invokevirtual 63, 3) := by decide +kernel
theorem dX5_both_19 : decode cX5_both 19 = .ok (.ifCond .eq 17, 3) := by decide +kernel
theorem dX5_both_22 : decode cX5_both 22 = .ok (.iload_n 1, 1) := by decide +kernel
theorem dX5_both_23 : decode cX5_both 23 = .ok (.iload_n 2, 1) := by decide +kernel
theorem dX5_both_24 : decode cX5_both 24 = .ok (.if_icmp .eq 12, 3) := by decide +kernel
theorem dX5_both_27 : decode cX5_both 27 = .ok (.iload_n 3, 1) := by decide +kernel
theorem dX5_both_28 : decode cX5_both 28 = .ok (.iload 4, 2) := by decide +kernel
theorem dX5_both_30 : decode cX5_both 30 = .ok (.invokestatic 157, 3) := by decide +kernel
theorem dX5_both_33 : decode cX5_both 33 = .ok (.ifCond .ne 10, 3) := by decide +kernel
theorem dX5_both_36 : decode cX5_both 36 = .ok (.aload_n 0, 1) := by decide +kernel
theorem dX5_both_37 : decode cX5_both 37 = .ok (.bipush (-2), 2) := by decide +kernel
theorem dX5_both_39 : decode cX5_both 39 = .ok (.invokevirtual 51, 3) := by decide +kernel
theorem dX5_both_42 : decode cX5_both 42 = .ok (.ireturn, 1) := by decide +kernel
theorem dX5_both_43 : decode cX5_both 43 = .ok (.aload_n 0, 1) := by decide +kernel
theorem dX5_both_44 : decode cX5_both 44 = .ok (.iconst 1, 1) := by decide +kernel
theorem dX5_both_45 : decode cX5_both 45 = .ok (.iload_n 1, 1) := by decide +kernel
theorem dX5_both_46 : decode cX5_both 46 = .ok (.ishl, 1) := by decide +kernel
theorem dX5_both_47 : decode cX5_both 47 = .ok (.iconst 1, 1) := by decide +kernel
theorem dX5_both_48 : decode cX5_both 48 = .ok (.iload_n 2, 1) := by decide +kernel
theorem dX5_both_49 : decode cX5_both 49 = .ok (.ishl, 1) := by decide +kernel
theorem dX5_both_50 : decode cX5_both 50 = .ok (.ior, 1) := by decide +kernel
theorem dX5_both_51 : decode cX5_both 51 = .ok (.iload_n 3, 1) := by decide +kernel
theorem dX5_both_52 : decode cX5_both 52 = .ok (.iload 4, 2) := by decide +kernel
theorem dX5_both_54 : decode cX5_both 54 = .ok (.invokevirtual 160, 3) := by decide +kernel
theorem dX5_both_57 : decode cX5_both 57 = .ok (.ireturn, 1) := by decide +kernel
theorem dX5_best_0 : decode cX5_best 0 = .ok (.iload_n 1, 1) := by decide +kernel
theorem dX5_best_1 : decode cX5_best 1 = .ok (.iload_n 2, 1) := by decide +kernel
theorem dX5_best_2 : decode cX5_best 2 = .ok (.invokestatic 157, 3) := by decide +kernel
theorem dX5_best_5 : decode cX5_best 5 = .ok (.ifCond .eq 12, 3) := by decide +kernel
theorem dX5_best_8 : decode cX5_best 8 = .ok (.iload_n 3, 1) := by decide +kernel
theorem dX5_best_9 : decode cX5_best 9 = .ok (.ifCond .lt 8, 3) := by decide +kernel
theorem dX5_best_12 : decode cX5_best 12 = .ok (.iload_n 3, 1) := by decide +kernel
theorem dX5_best_13 : decode cX5_best 13 = .ok (.iconst 1, 1) := by decide +kernel
theorem dX5_best_14 : decode cX5_best 14 = .ok (.if_icmp .le 11, 3) := by decide +kernel
theorem dX5_best_17 : decode cX5_best 17 = .ok (.aload_n 0, 1) := by decide +kernel
theorem dX5_best_18 : decode cX5_best 18 = .ok (.bipush (-2), 2) := by decide +kernel
theorem dX5_best_20 : decode cX5_best 20 = .ok (.invokevirtual 51, 3) := by decide +kernel
theorem dX5_best_23 : decode cX5_best 23 = .ok (.i2l, 1) := by decide +kernel
theorem dX5_best_24 : decode cX5_best 24 = .ok (.lreturn, 1) := by decide +kernel
theorem dX5_best_25 : decode cX5_best 25 = .ok (.iload_n 1, 1) := by decide +kernel
theorem dX5_best_26 : decode cX5_best 26 = .ok (.istore 4, 2) := by decide +kernel
theorem dX5_best_28 : decode cX5_best 28 = .ok (.ldc2_w 165, 3) := by decide +kernel
theorem dX5_best_31 : decode cX5_best 31 = .ok (.lstore 5, 2) := by decide +kernel
theorem dX5_best_33 : decode cX5_best 33 = .ok (.iconst 0, 1) := by decide +kernel
theorem dX5_best_34 : decode cX5_best 34 = .ok (.istore 7, 2) := by decide +kernel
theorem dX5_best_36 : decode cX5_best 36 = .ok (.iload 7, 2) := by decide +kernel
theorem dX5_best_38 : decode cX5_best 38 = .ok (.iload_n 2, 1) := by decide +kernel
theorem dX5_best_39 : decode cX5_best 39 = .ok (.if_icmp .ge 62, 3) := by decide +kernel
theorem dX5_best_42 : decode cX5_best 42 = .ok (.aload_n 0, 1) := by decide +kernel
theorem dX5_best_43 : decode cX5_best 43 = .ok (.getfield 23, 3) := by decide +kernel
theorem dX5_best_46 : decode cX5_best 46 = .ok (.aload_n 0, 1) := by decide +kernel
theorem dX5_best_47 : decode cX5_best 47 = .ok (.getfield 10, 3) := by decide +kernel
theorem dX5_best_50 : decode cX5_best 50 = .ok (.aload_n 0, 1) := by decide +kernel
theorem dX5_best_51 : decode cX5_best 51 = .ok (.getfield 114, 3) := by decide +kernel
theorem dX5_best_54 : decode cX5_best 54 = .ok (.iload_n 1, 1) := by decide +kernel
theorem dX5_best_55 : decode cX5_best 55 = .ok (.iload 7, 2) := by decide +kernel
theorem dX5_best_57 : decode cX5_best 57 = .ok (.iadd, 1) := by decide +kernel
theorem dX5_best_58 : decode cX5_best 58 = .ok (.invokevirtual 117, 3) := by decide +kernel
theorem dX5_best_61 : decode cX5_best 61 = .ok (.aload_n 0, 1) := by decide +kernel
theorem dX5_best_62 : decode cX5_best 62 = .ok (.getfield 10, 3) := by decide +kernel
theorem dX5_best_65 : decode cX5_best 65 = .ok (.aload_n 0, 1) := by decide +kernel
theorem dX5_best_66 : decode cX5_best 66 = .ok (.getfield 23, 3) := by decide +kernel
theorem dX5_best_69 : decode cX5_best 69 = .ok (.getfield 121, 3) := by decide +kernel
theorem dX5_best_72 : decode cX5_best 72 = .ok (.invokevirtual 139, 3) := by decide +kernel
theorem dX5_best_75 : decode cX5_best 75 = .ok (.lstore 8, 2) := by decide +kernel
theorem dX5_best_77 : decode cX5_best 77 = .ok (.lload 8, 2) := by decide +kernel
theorem dX5_best_79 : decode cX5_best 79 = .ok (.lload 5, 2) := by decide +kernel
theorem dX5_best_81 : decode cX5_best 81 = .ok (.lcmp, 1) := by decide +kernel
theorem dX5_best_82 : decode cX5_best 82 = .ok (.ifCond .ge 13, 3) := by decide +kernel
theorem dX5_best_85 : decode cX5_best 85 = .ok (.lload 8, 2) := by decide +kernel
theorem dX5_best_87 : decode cX5_best 87 = .ok (.lstore 5, 2) := by decide +kernel
theorem dX5_best_89 : decode cX5_best 89 = .ok (.iload_n 1, 1) := by decide +kernel
theorem dX5_best_90 : decode cX5_best 90 = .ok (.iload 7, 2) := by decide +kernel
theorem dX5_best_92 : decode cX5_best 92 = .ok (.iadd, 1) := by decide +kernel
theorem dX5_best_93 : decode cX5_best 93 = .ok (.istore 4, 2) := by decide +kernel
theorem dX5_best_95 : decode cX5_best 95 = .ok (.iinc 7 1, 3) := by decide +kernel
theorem dX5_best_98 : decode cX5_best 98 = .ok (.goto (-62), 3) := by decide +kernel
theorem dX5_best_101 : decode cX5_best 101 = .ok (.iload_n 3, 1) := by decide +kernel
theorem dX5_best_102 : decode cX5_best 102 = .ok (.ifCond .ne 9, 3) := by decide +kernel
theorem dX5_best_105 : decode cX5_best 105 = .ok (.iload 4, 2) := by decide +kernel
theorem dX5_best_107 : decode cX5_best 107 = .ok (.i2l, 1) := by decide +kernel
theorem dX5_best_108 : decode cX5_best 108 = .ok (.goto 5, 3) := by decide +kernel
theorem dX5_best_111 : decode cX5_best 111 = .ok (.lload 5, 2) := by decide +kernel
theorem dX5_best_113 : decode cX5_best 113 = .ok (.lreturn, 1) := by decide +kernel
theorem dX5_many_0 : decode cX5_many 0 = .ok (.aload_n 0, 1) := by decide +kernel
theorem dX5_many_1 : decode cX5_many 1 = .ok (.getfield 29, 3) := by decide +kernel
theorem dX5_many_4 : decode cX5_many 4 = .ok (.aload_n 0, 1) := by decide +kernel
theorem dX5_many_5 : decode cX5_many 5 = .ok (.getfield 10, 3) := by decide +kernel
theorem dX5_many_8 : decode cX5_many 8 = .ok (.aload_n 0, 1) := by decide +kernel
theorem dX5_many_9 : decode cX5_many 9 = .ok (.getfield 114, 3) := by decide +kernel
theorem dX5_many_12 : decode cX5_many 12 = .ok (.aload_n 0, 1) := by decide +kernel
theorem dX5_many_13 : decode cX5_many 13 = .ok (.getfield 23, 3) := by decide +kernel
theorem dX5_many_16 : decode cX5_many 16 = .ok (.invokevirtual 167, 3) := by decide +kernel
theorem dX5_many_19 : decode cX5_many 19 = .ok (.aload_n 0, 1) := by decide +kernel
theorem dX5_many_20 : decode cX5_many 20 = .ok (.getfield 29, 3) := by decide +kernel
theorem dX5_many_23 : decode cX5_many 23 = .ok (.invokevirtual 171, 3) := by decide +kernel
theorem dX5_many_26 : decode cX5_many 26 = .ok (.ireturn, 1) := by decide +kernel
theorem dX5_sizes_0 : decode cX5_sizes 0 = .ok (.iload_n 1, 1) := by decide +kernel
theorem dX5_sizes_1 : decode cX5_sizes 1 = .ok (.ifCond .lt 8, 3) := by decide +kernel
theorem dX5_sizes_4 : decode cX5_sizes 4 = .ok (.iload_n 1, 1) := by decide +kernel
theorem dX5_sizes_5 : decode cX5_sizes 5 = .ok (.iconst 1, 1) := by decide +kernel
theorem dX5_sizes_6 : decode cX5_sizes 6 = .ok (.if_icmp .le 10, 3) := by decide +kernel
theorem dX5_sizes_9 : decode cX5_sizes 9 = .ok (.aload_n 0, 1) := by decide +kernel
theorem dX5_sizes_10 : decode cX5_sizes 10 = .ok (.bipush (-2), 2) := by decide +kernel
theorem dX5_sizes_12 : decode cX5_sizes 12 = .ok (.invokevirtual 51, 3) := by decide +kernel
theorem dX5_sizes_15 : decode cX5_sizes 15 = .ok (.ireturn, 1) := by decide +kernel
theorem dX5_sizes_16 : decode cX5_sizes 16 = .ok (.aload_n 0, 1) := by decide +kernel
theorem dX5_sizes_17 : decode cX5_sizes 17 = .ok (.getfield 29, 3) := by decide +kernel
theorem dX5_sizes_20 : decode cX5_sizes 20 = .ok (.aload_n 0, 1) := by decide +kernel
theorem dX5_sizes_21 : decode cX5_sizes 21 = .ok (.getfield 10, 3) := by decide +kernel
theorem dX5_sizes_24 : decode cX5_sizes 24 = .ok (.aload_n 0, 1) := by decide +kernel
theorem dX5_sizes_25 : decode cX5_sizes 25 = .ok (.getfield 114, 3) := by decide +kernel
theorem dX5_sizes_28 : decode cX5_sizes 28 = .ok (.aload_n 0, 1) := by decide +kernel
theorem dX5_sizes_29 : decode cX5_sizes 29 = .ok (.getfield 23, 3) := by decide +kernel
theorem dX5_sizes_32 : decode cX5_sizes 32 = .ok (.invokevirtual 167, 3) := by decide +kernel
theorem dX5_sizes_35 : decode cX5_sizes 35 = .ok (.iload_n 1, 1) := by decide +kernel
theorem dX5_sizes_36 : decode cX5_sizes 36 = .ok (.ifCond .ne 13, 3) := by decide +kernel
theorem dX5_sizes_39 : decode cX5_sizes 39 = .ok (.aload_n 0, 1) := by decide +kernel
theorem dX5_sizes_40 : decode cX5_sizes 40 = .ok (.getfield 29, 3) := by decide +kernel
theorem dX5_sizes_43 : decode cX5_sizes 43 = .ok (.invokevirtual 174, 3) := by decide +kernel
theorem dX5_sizes_46 : decode cX5_sizes 46 = .ok (.goto 10, 3) := by decide +kernel
theorem dX5_sizes_49 : decode cX5_sizes 49 = .ok (.aload_n 0, 1) := by decide +kernel
theorem dX5_sizes_50 : decode cX5_sizes 50 = .ok (.getfield 29, 3) := by decide +kernel
theorem dX5_sizes_53 : decode cX5_sizes 53 = .ok (.invokevirtual 177, 3) := by decide +kernel
theorem dX5_sizes_56 : decode cX5_sizes 56 = .ok (.ireturn, 1) := by decide +kernel
theorem dX5_can_0 : decode cX5_can 0 = .ok (.aload_n 0, 1) := by decide +kernel
theorem dX5_can_1 : decode cX5_can 1 = .ok (.getfield 10, 3) := by decide +kernel
theorem dX5_can_4 : decode cX5_can 4 = .ok (.iload_n 1, 1) := by decide +kernel
theorem dX5_can_5 : decode cX5_can 5 = .ok (.invokevirtual 63, 3) := by decide +kernel
theorem dX5_can_8 : decode cX5_can 8 = .ok (.ifCond .eq 14, 3) := by decide +kernel
theorem dX5_can_11 : decode cX5_can 11 = .ok (.aload_n 0, 1) := by decide +kernel
theorem dX5_can_12 : decode cX5_can 12 = .ok (.getfield 10, 3) := by decide +kernel
theorem dX5_can_15 : decode cX5_can 15 = .ok (.iload_n 2, 1) := by decide +kernel
theorem dX5_can_16 : decode cX5_can 16 = .ok (.invokevirtual 63, 3) := by decide +kernel
theorem dX5_can_19 : decode cX5_can 19 = .ok (.ifCond .ne 10, 3) := by decide +kernel
theorem dX5_can_22 : decode cX5_can 22 = .ok (.aload_n 0, 1) := by decide +kernel
theorem dX5_can_23 : decode cX5_can 23 = .ok (.bipush (-2), 2) := by decide +kernel
theorem dX5_can_25 : decode cX5_can 25 = .ok (.invokevirtual 51, 3) := by decide +kernel
theorem dX5_can_28 : decode cX5_can 28 = .ok (.ireturn, 1) := by decide +kernel
theorem dX5_can_29 : decode cX5_can 29 = .ok (.aload_n 0, 1) := by decide +kernel
theorem dX5_can_30 : decode cX5_can 30 = .ok (.getfield 29, 3) := by decide +kernel
theorem dX5_can_33 : decode cX5_can 33 = .ok (.aload_n 0, 1) := by decide +kernel
theorem dX5_can_34 : decode cX5_can 34 = .ok (.getfield 10, 3) := by decide +kernel
theorem dX5_can_37 : decode cX5_can 37 = .ok (.aload_n 0, 1) := by decide +kernel
theorem dX5_can_38 : decode cX5_can 38 = .ok (.getfield 114, 3) := by decide +kernel
theorem dX5_can_41 : decode cX5_can 41 = .ok (.aload_n 0, 1) := by decide +kernel
theorem dX5_can_42 : decode cX5_can 42 = .ok (.getfield 23, 3) := by decide +kernel
theorem dX5_can_45 : decode cX5_can 45 = .ok (.invokevirtual 167, 3) := by decide +kernel
theorem dX5_can_48 : decode cX5_can 48 = .ok (.aload_n 0, 1) := by decide +kernel
theorem dX5_can_49 : decode cX5_can 49 = .ok (.getfield 29, 3) := by decide +kernel
theorem dX5_can_52 : decode cX5_can 52 = .ok (.iconst 1, 1) := by decide +kernel
theorem dX5_can_53 : decode cX5_can 53 = .ok (.iload_n 1, 1) := by decide +kernel
theorem dX5_can_54 : decode cX5_can 54 = .ok (.ishl, 1) := by decide +kernel
theorem dX5_can_55 : decode cX5_can 55 = .ok (.iconst 1, 1) := by decide +kernel
theorem dX5_can_56 : decode cX5_can 56 = .ok (.iload_n 2, 1) := by decide +kernel
theorem dX5_can_57 : decode cX5_can 57 = .ok (.ishl, 1) := by decide +kernel
theorem dX5_can_58 : decode cX5_can 58 = .ok (.ior, 1) := by decide +kernel
theorem dX5_can_59 : decode cX5_can 59 = .ok (.invokevirtual 180, 3) := by decide +kernel
theorem dX5_can_62 : decode cX5_can 62 = .ok (.ifCond .eq 7, 3) := by decide +kernel
theorem dX5_can_65 : decode cX5_can 65 = .ok (.iconst 1, 1) := by decide +kernel
theorem dX5_can_66 : decode cX5_can 66 = .ok (.goto 4, 3) := by decide +kernel
theorem dX5_can_69 : decode cX5_can 69 = .ok (.iconst 0, 1) := by decide +kernel
theorem dX5_can_70 : decode cX5_can 70 = .ok (.ireturn, 1) := by decide +kernel
theorem dX5_least_0 : decode cX5_least 0 = .ok (.aload_n 0, 1) := by decide +kernel
theorem dX5_least_1 : decode cX5_least 1 = .ok (.getfield 29, 3) := by decide +kernel
theorem dX5_least_4 : decode cX5_least 4 = .ok (.aload_n 0, 1) := by decide +kernel
theorem dX5_least_5 : decode cX5_least 5 = .ok (.getfield 10, 3) := by decide +kernel
theorem dX5_least_8 : decode cX5_least 8 = .ok (.aload_n 0, 1) := by decide +kernel
theorem dX5_least_9 : decode cX5_least 9 = .ok (.getfield 114, 3) := by decide +kernel
theorem dX5_least_12 : decode cX5_least 12 = .ok (.aload_n 0, 1) := by decide +kernel
theorem dX5_least_13 : decode cX5_least 13 = .ok (.getfield 23, 3) := by decide +kernel
theorem dX5_least_16 : decode cX5_least 16 = .ok (.invokevirtual 167, 3) := by decide +kernel
theorem dX5_least_19 : decode cX5_least 19 = .ok (.aload_n 0, 1) := by decide +kernel
theorem dX5_least_20 : decode cX5_least 20 = .ok (.getfield 29, 3) := by decide +kernel
theorem dX5_least_23 : decode cX5_least 23 = .ok (.aload_n 0, 1) := by decide +kernel
theorem dX5_least_24 : decode cX5_least 24 = .ok (.getfield 10, 3) := by decide +kernel
theorem dX5_least_27 : decode cX5_least 27 = .ok (.invokevirtual 183, 3) := by decide +kernel
theorem dX5_least_30 : decode cX5_least 30 = .ok (.lreturn, 1) := by decide +kernel
theorem dX5_type_0 : decode cX5_type 0 = .ok (.iload_n 1, 1) := by decide +kernel
theorem dX5_type_1 : decode cX5_type 1 = .ok (.ifCond .lt 9, 3) := by decide +kernel
theorem dX5_type_4 : decode cX5_type 4 = .ok (.iload_n 1, 1) := by decide +kernel
theorem dX5_type_5 : decode cX5_type 5 = .ok (.bipush 127, 2) := by decide +kernel
theorem dX5_type_7 : decode cX5_type 7 = .ok (.if_icmp .le 10, 3) := by decide +kernel
theorem dX5_type_10 : decode cX5_type 10 = .ok (.aload_n 0, 1) := by decide +kernel
theorem dX5_type_11 : decode cX5_type 11 = .ok (.bipush (-2), 2) := by decide +kernel
theorem dX5_type_13 : decode cX5_type 13 = .ok (.invokevirtual 51, 3) := by decide +kernel
theorem dX5_type_16 : decode cX5_type 16 = .ok (.ireturn, 1) := by decide +kernel
theorem dX5_type_17 : decode cX5_type 17 = .ok (.aload_n 0, 1) := by decide +kernel
theorem dX5_type_18 : decode cX5_type 18 = .ok (.getfield 36, 3) := by decide +kernel
theorem dX5_type_21 : decode cX5_type 21 = .ok (.getfield 187, 3) := by decide +kernel
theorem dX5_type_24 : decode cX5_type 24 = .ok (.bipush 120, 2) := by decide +kernel
theorem dX5_type_26 : decode cX5_type 26 = .ok (.if_icmp .lt 10, 3) := by decide +kernel
theorem dX5_type_29 : decode cX5_type 29 = .ok (.aload_n 0, 1) := by decide +kernel
theorem dX5_type_30 : decode cX5_type 30 = .ok (.bipush (-4), 2) := by decide +kernel
theorem dX5_type_32 : decode cX5_type 32 = .ok (.invokevirtual 51, 3) := by decide +kernel
theorem dX5_type_35 : decode cX5_type 35 = .ok (.ireturn, 1) := by decide +kernel
theorem dX5_type_36 : decode cX5_type 36 = .ok (.aload_n 0, 1) := by decide +kernel
theorem dX5_type_37 : decode cX5_type 37 = .ok (.getfield 36, 3) := by decide +kernel
theorem dX5_type_40 : decode cX5_type 40 = .ok (.iload_n 1, 1) := by decide +kernel
theorem dX5_type_41 : decode cX5_type 41 = .ok (.invokevirtual 190, 3) := by decide +kernel
theorem dX5_type_44 : decode cX5_type 44 = .ok (.ireturn, 1) := by decide +kernel
theorem dX5_clear_0 : decode cX5_clear 0 = .ok (.aload_n 0, 1) := by decide +kernel
theorem dX5_clear_1 : decode cX5_clear 1 = .ok (.getfield 36, 3) := by decide +kernel
theorem dX5_clear_4 : decode cX5_clear 4 = .ok (.getfield 187, 3) := by decide +kernel
theorem dX5_clear_7 : decode cX5_clear 7 = .ok (.istore_n 1, 1) := by decide +kernel
theorem dX5_clear_8 : decode cX5_clear 8 = .ok (.aload_n 0, 1) := by decide +kernel
theorem dX5_clear_9 : decode cX5_clear 9 = .ok (.getfield 36, 3) := by decide +kernel
theorem dX5_clear_12 : decode cX5_clear 12 = .ok (.iconst 0, 1) := by decide +kernel
theorem dX5_clear_13 : decode cX5_clear 13 = .ok (.putfield 187, 3) := by decide +kernel
theorem dX5_clear_16 : decode cX5_clear 16 = .ok (.iload_n 1, 1) := by decide +kernel
theorem dX5_clear_17 : decode cX5_clear 17 = .ok (.ireturn, 1) := by decide +kernel
theorem dX5_says_0 : decode cX5_says 0 = .ok (.aload_n 0, 1) := by decide +kernel
theorem dX5_says_1 : decode cX5_says 1 = .ok (.getfield 36, 3) := by decide +kernel
theorem dX5_says_4 : decode cX5_says 4 = .ok (.aload_n 0, 1) := by decide +kernel
theorem dX5_says_5 : decode cX5_says 5 = .ok (.getfield 10, 3) := by decide +kernel
theorem dX5_says_8 : decode cX5_says 8 = .ok (.getfield 55, 3) := by decide +kernel
theorem dX5_says_11 : decode cX5_says 11 = .ok (.invokevirtual 192, 3) := by decide +kernel
theorem dX5_says_14 : decode cX5_says 14 = .ok (.istore_n 1, 1) := by decide +kernel
theorem dX5_says_15 : decode cX5_says 15 = .ok (.iload_n 1, 1) := by decide +kernel
theorem dX5_says_16 : decode cX5_says 16 = .ok (.iconst (-1), 1) := by decide +kernel
theorem dX5_says_17 : decode cX5_says 17 = .ok (.if_icmp .eq 8, 3) := by decide +kernel
theorem dX5_says_20 : decode cX5_says 20 = .ok (.bipush (-10), 2) := by decide +kernel
theorem dX5_says_22 : decode cX5_says 22 = .ok (.iload_n 1, 1) := by decide +kernel
theorem dX5_says_23 : decode cX5_says 23 = .ok (.isub, 1) := by decide +kernel
theorem dX5_says_24 : decode cX5_says 24 = .ok (.ireturn, 1) := by decide +kernel
theorem dX5_says_25 : decode cX5_says 25 = .ok (.aload_n 0, 1) := by decide +kernel
theorem dX5_says_26 : decode cX5_says 26 = .ok (.getfield 43, 3) := by decide +kernel
theorem dX5_says_29 : decode cX5_says 29 = .ok (.iconst 0, 1) := by decide +kernel
theorem dX5_says_30 : decode cX5_says 30 = .ok (.putfield 195, 3) := by decide +kernel
theorem dX5_says_33 : decode cX5_says 33 = .ok (.iconst 0, 1) := by decide +kernel
theorem dX5_says_34 : decode cX5_says 34 = .ok (.istore_n 2, 1) := by decide +kernel
theorem dX5_says_35 : decode cX5_says 35 = .ok (.iload_n 2, 1) := by decide +kernel
theorem dX5_says_36 : decode cX5_says 36 = .ok (.aload_n 0, 1) := by decide +kernel
theorem dX5_says_37 : decode cX5_says 37 = .ok (.getfield 36, 3) := by decide +kernel
theorem dX5_says_40 : decode cX5_says 40 = .ok (.getfield 196, 3) := by decide +kernel
theorem dX5_says_43 : decode cX5_says 43 = .ok (.if_icmp .ge 27, 3) := by decide +kernel
theorem dX5_says_46 : decode cX5_says 46 = .ok (.iload_n 2, 1) := by decide +kernel
theorem dX5_says_47 : decode cX5_says 47 = .ok (.ifCond .le 12, 3) := by decide +kernel
theorem dX5_says_50 : decode cX5_says 50 = .ok (.aload_n 0, 1) := by decide +kernel
theorem dX5_says_51 : decode cX5_says 51 = .ok (.getfield 43, 3) := by decide +kernel
theorem dX5_says_54 : decode cX5_says 54 = .ok (.bipush 32, 2) := by decide +kernel
theorem dX5_says_56 : decode cX5_says 56 = .ok (.invokevirtual 199, 3) := by decide +kernel
theorem dX5_says_59 : decode cX5_says 59 = .ok (.aload_n 0, 1) := by decide +kernel
theorem dX5_says_60 : decode cX5_says 60 = .ok (.iload_n 2, 1) := by decide +kernel
theorem dX5_says_61 : decode cX5_says 61 = .ok (.invokevirtual 203, 3) := by decide +kernel
theorem dX5_says_64 : decode cX5_says 64 = .ok (.iinc 2 1, 3) := by decide +kernel
theorem dX5_says_67 : decode cX5_says 67 = .ok (.goto (-32), 3) := by decide +kernel
theorem dX5_says_70 : decode cX5_says 70 = .ok (.aload_n 0, 1) := by decide +kernel
theorem dX5_says_71 : decode cX5_says 71 = .ok (.getfield 36, 3) := by decide +kernel
theorem dX5_says_74 : decode cX5_says 74 = .ok (.getfield 196, 3) := by decide +kernel
theorem dX5_says_77 : decode cX5_says 77 = .ok (.ireturn, 1) := by decide +kernel
theorem dX5_answer_0 : decode cX5_answer 0 = .ok (.iload_n 1, 1) := by decide +kernel
theorem dX5_answer_1 : decode cX5_answer 1 = .ok (.iconst (-1), 1) := by decide +kernel
theorem dX5_answer_2 : decode cX5_answer 2 = .ok (.if_icmp .ge 13, 3) := by decide +kernel
theorem dX5_answer_5 : decode cX5_answer 5 = .ok (.aload_n 0, 1) := by decide +kernel
theorem dX5_answer_6 : decode cX5_answer 6 = .ok (.bipush (-2), 2) := by decide +kernel
theorem dX5_answer_8 : decode cX5_answer 8 = .ok (.invokevirtual 51, 3) := by decide +kernel
theorem dX5_answer_11 : decode cX5_answer 11 = .ok (.pop, 1) := by decide +kernel
theorem dX5_answer_12 : decode cX5_answer 12 = .ok (.bipush (-10), 2) := by decide +kernel
theorem dX5_answer_14 : decode cX5_answer 14 = .ok (.ireturn, 1) := by decide +kernel
theorem dX5_answer_15 : decode cX5_answer 15 = .ok (.iload_n 1, 1) := by decide +kernel
theorem dX5_answer_16 : decode cX5_answer 16 = .ok (.iconst (-1), 1) := by decide +kernel
theorem dX5_answer_17 : decode cX5_answer 17 = .ok (.if_icmp .ne 11, 3) := by decide +kernel
theorem dX5_answer_20 : decode cX5_answer 20 = .ok (.aload_n 0, 1) := by decide +kernel
theorem dX5_answer_21 : decode cX5_answer 21 = .ok (.getfield 43, 3) := by decide +kernel
theorem dX5_answer_24 : decode cX5_answer 24 = .ok (.getfield 195, 3) := by decide +kernel
theorem dX5_answer_27 : decode cX5_answer 27 = .ok (.ireturn, 1) := by decide +kernel
theorem dX5_answer_28 : decode cX5_answer 28 = .ok (.iload_n 1, 1) := by decide +kernel
theorem dX5_answer_29 : decode cX5_answer 29 = .ok (.aload_n 0, 1) := by decide +kernel
theorem dX5_answer_30 : decode cX5_answer 30 = .ok (.getfield 43, 3) := by decide +kernel
theorem dX5_answer_33 : decode cX5_answer 33 = .ok (.getfield 195, 3) := by decide +kernel
theorem dX5_answer_36 : decode cX5_answer 36 = .ok (.if_icmp .ge 14, 3) := by decide +kernel
theorem dX5_answer_39 : decode cX5_answer 39 = .ok (.aload_n 0, 1) := by decide +kernel
theorem dX5_answer_40 : decode cX5_answer 40 = .ok (.getfield 43, 3) := by decide +kernel
theorem dX5_answer_43 : decode cX5_answer 43 = .ok (.iload_n 1, 1) := by decide +kernel
theorem dX5_answer_44 : decode cX5_answer 44 = .ok (.invokevirtual 206, 3) := by decide +kernel
theorem dX5_answer_47 : decode cX5_answer 47 = .ok (.goto 5, 3) := by decide +kernel
theorem dX5_answer_50 : decode cX5_answer 50 = .ok (.bipush (-5), 2) := by decide +kernel
theorem dX5_answer_52 : decode cX5_answer 52 = .ok (.ireturn, 1) := by decide +kernel
theorem dX5_told_0 : decode cX5_told 0 = .ok (.iload_n 1, 1) := by decide +kernel
theorem dX5_told_1 : decode cX5_told 1 = .ok (.ifCond .lt 9, 3) := by decide +kernel
theorem dX5_told_4 : decode cX5_told 4 = .ok (.iload_n 1, 1) := by decide +kernel
theorem dX5_told_5 : decode cX5_told 5 = .ok (.bipush 6, 2) := by decide +kernel
theorem dX5_told_7 : decode cX5_told 7 = .ok (.if_icmp .le 10, 3) := by decide +kernel
theorem dX5_told_10 : decode cX5_told 10 = .ok (.aload_n 0, 1) := by decide +kernel
theorem dX5_told_11 : decode cX5_told 11 = .ok (.bipush (-2), 2) := by decide +kernel
theorem dX5_told_13 : decode cX5_told 13 = .ok (.invokevirtual 51, 3) := by decide +kernel
theorem dX5_told_16 : decode cX5_told 16 = .ok (.ireturn, 1) := by decide +kernel
theorem dX5_told_17 : decode cX5_told 17 = .ok (.aload_n 0, 1) := by decide +kernel
theorem dX5_told_18 : decode cX5_told 18 = .ok (.iload_n 1, 1) := by decide +kernel
theorem dX5_told_19 : decode cX5_told 19 = .ok (.invokevirtual 209, 3) := by decide +kernel
theorem dX5_told_22 : decode cX5_told 22 = .ok (.ireturn, 1) := by decide +kernel
theorem dX5_digest_0 : decode cX5_digest 0 = .ok (.ldc2_w 212, 3) := by decide +kernel
theorem dX5_digest_3 : decode cX5_digest 3 = .ok (.lstore_n 1, 1) := by decide +kernel
theorem dX5_digest_4 : decode cX5_digest 4 = .ok (.iconst 0, 1) := by decide +kernel
theorem dX5_digest_5 : decode cX5_digest 5 = .ok (.istore_n 3, 1) := by decide +kernel
theorem dX5_digest_6 : decode cX5_digest 6 = .ok (.iload_n 3, 1) := by decide +kernel
theorem dX5_digest_7 : decode cX5_digest 7 = .ok (.bipush 6, 2) := by decide +kernel
theorem dX5_digest_9 : decode cX5_digest 9 = .ok (.if_icmp .gt 22, 3) := by decide +kernel
theorem dX5_digest_12 : decode cX5_digest 12 = .ok (.ldc2_w 214, 3) := by decide +kernel
theorem dX5_digest_15 : decode cX5_digest 15 = .ok (.lload_n 1, 1) := by decide +kernel
theorem dX5_digest_16 : decode cX5_digest 16 = .ok (.lmul, 1) := by decide +kernel
theorem dX5_digest_17 : decode cX5_digest 17 = .ok (.aload_n 0, 1) := by decide +kernel
theorem dX5_digest_18 : decode cX5_digest 18 = .ok (.iload_n 3, 1) := by decide +kernel
theorem dX5_digest_19 : decode cX5_digest 19 = .ok (.invokevirtual 209, 3) := by decide +kernel
theorem dX5_digest_22 : decode cX5_digest 22 = .ok (.i2l, 1) := by decide +kernel
theorem dX5_digest_23 : decode cX5_digest 23 = .ok (.ladd, 1) := by decide +kernel
theorem dX5_digest_24 : decode cX5_digest 24 = .ok (.lstore_n 1, 1) := by decide +kernel
theorem dX5_digest_25 : decode cX5_digest 25 = .ok (.iinc 3 1, 3) := by decide +kernel
theorem dX5_digest_28 : decode cX5_digest 28 = .ok (.goto (-22), 3) := by decide +kernel
theorem dX5_digest_31 : decode cX5_digest 31 = .ok (.iconst 0, 1) := by decide +kernel
theorem dX5_digest_32 : decode cX5_digest 32 = .ok (.istore_n 3, 1) := by decide +kernel
theorem dX5_digest_33 : decode cX5_digest 33 = .ok (.iload_n 3, 1) := by decide +kernel
theorem dX5_digest_34 : decode cX5_digest 34 = .ok (.aload_n 0, 1) := by decide +kernel
theorem dX5_digest_35 : decode cX5_digest 35 = .ok (.getfield 10, 3) := by decide +kernel
theorem dX5_digest_38 : decode cX5_digest 38 = .ok (.getfield 55, 3) := by decide +kernel
theorem dX5_digest_41 : decode cX5_digest 41 = .ok (.if_icmp .ge 39, 3) := by decide +kernel
theorem dX5_digest_44 : decode cX5_digest 44 = .ok (.iconst 0, 1) := by decide +kernel
theorem dX5_digest_45 : decode cX5_digest 45 = .ok (.istore 4, 2) := by decide +kernel
theorem dX5_digest_47 : decode cX5_digest 47 = .ok (.iload 4, 2) := by decide +kernel
theorem dX5_digest_49 : decode cX5_digest 49 = .ok (.iconst 5, 1) := by decide +kernel
theorem dX5_digest_50 : decode cX5_digest 50 = .ok (.if_icmp .gt 24, 3) := by decide +kernel
theorem dX5_digest_53 : decode cX5_digest 53 = .ok (.ldc2_w 214, 3) := by decide +kernel
theorem dX5_digest_56 : decode cX5_digest 56 = .ok (.lload_n 1, 1) := by decide +kernel
theorem dX5_digest_57 : decode cX5_digest 57 = .ok (.lmul, 1) := by decide +kernel
theorem dX5_digest_58 : decode cX5_digest 58 = .ok (.aload_n 0, 1) := by decide +kernel
theorem dX5_digest_59 : decode cX5_digest 59 = .ok (.iload_n 3, 1) := by decide +kernel
theorem dX5_digest_60 : decode cX5_digest 60 = .ok (.iload 4, 2) := by decide +kernel
theorem dX5_digest_62 : decode cX5_digest 62 = .ok (.invokevirtual 103, 3) := by decide +kernel
theorem dX5_digest_65 : decode cX5_digest 65 = .ok (.i2l, 1) := by decide +kernel
theorem dX5_digest_66 : decode cX5_digest 66 = .ok (.ladd, 1) := by decide +kernel
theorem dX5_digest_67 : decode cX5_digest 67 = .ok (.lstore_n 1, 1) := by decide +kernel
theorem dX5_digest_68 : decode cX5_digest 68 = .ok (.iinc 4 1, 3) := by decide +kernel
theorem dX5_digest_71 : decode cX5_digest 71 = .ok (.goto (-24), 3) := by decide +kernel
theorem dX5_digest_74 : decode cX5_digest 74 = .ok (.iinc 3 1, 3) := by decide +kernel
theorem dX5_digest_77 : decode cX5_digest 77 = .ok (.goto (-44), 3) := by decide +kernel
theorem dX5_digest_80 : decode cX5_digest 80 = .ok (.iconst 0, 1) := by decide +kernel
theorem dX5_digest_81 : decode cX5_digest 81 = .ok (.istore_n 3, 1) := by decide +kernel
theorem dX5_digest_82 : decode cX5_digest 82 = .ok (.iload_n 3, 1) := by decide +kernel
theorem dX5_digest_83 : decode cX5_digest 83 = .ok (.iconst 3, 1) := by decide +kernel
theorem dX5_digest_84 : decode cX5_digest 84 = .ok (.if_icmp .gt 25, 3) := by decide +kernel
theorem dX5_digest_87 : decode cX5_digest 87 = .ok (.ldc2_w 214, 3) := by decide +kernel
theorem dX5_digest_90 : decode cX5_digest 90 = .ok (.lload_n 1, 1) := by decide +kernel
theorem dX5_digest_91 : decode cX5_digest 91 = .ok (.lmul, 1) := by decide +kernel
theorem dX5_digest_92 : decode cX5_digest 92 = .ok (.aload_n 0, 1) := by decide +kernel
theorem dX5_digest_93 : decode cX5_digest 93 = .ok (.getfield 19, 3) := by decide +kernel
theorem dX5_digest_96 : decode cX5_digest 96 = .ok (.iload_n 3, 1) := by decide +kernel
theorem dX5_digest_97 : decode cX5_digest 97 = .ok (.invokevirtual 129, 3) := by decide +kernel
theorem dX5_digest_100 : decode cX5_digest 100 = .ok (.i2l, 1) := by decide +kernel
theorem dX5_digest_101 : decode cX5_digest 101 = .ok (.ladd, 1) := by decide +kernel
theorem dX5_digest_102 : decode cX5_digest 102 = .ok (.lstore_n 1, 1) := by decide +kernel
theorem dX5_digest_103 : decode cX5_digest 103 = .ok (.iinc 3 1, 3) := by decide +kernel
theorem dX5_digest_106 : decode cX5_digest 106 = .ok (.goto (-24), 3) := by decide +kernel
theorem dX5_digest_109 : decode cX5_digest 109 = .ok (.iconst 0, 1) := by decide +kernel
theorem dX5_digest_110 : decode cX5_digest 110 = .ok (.istore_n 3, 1) := by decide +kernel
theorem dX5_digest_111 : decode cX5_digest 111 = .ok (.iload_n 3, 1) := by decide +kernel
theorem dX5_digest_112 : decode cX5_digest 112 = .ok (.aload_n 0, 1) := by decide +kernel
theorem dX5_digest_113 : decode cX5_digest 113 = .ok (.getfield 43, 3) := by decide +kernel
theorem dX5_digest_116 : decode cX5_digest 116 = .ok (.getfield 195, 3) := by decide +kernel
theorem dX5_digest_119 : decode cX5_digest 119 = .ok (.if_icmp .ge 25, 3) := by decide +kernel
theorem dX5_digest_122 : decode cX5_digest 122 = .ok (.ldc2_w 214, 3) := by decide +kernel
theorem dX5_digest_125 : decode cX5_digest 125 = .ok (.lload_n 1, 1) := by decide +kernel
theorem dX5_digest_126 : decode cX5_digest 126 = .ok (.lmul, 1) := by decide +kernel
theorem dX5_digest_127 : decode cX5_digest 127 = .ok (.aload_n 0, 1) := by decide +kernel
theorem dX5_digest_128 : decode cX5_digest 128 = .ok (.getfield 43, 3) := by decide +kernel
theorem dX5_digest_131 : decode cX5_digest 131 = .ok (.iload_n 3, 1) := by decide +kernel
theorem dX5_digest_132 : decode cX5_digest 132 = .ok (.invokevirtual 206, 3) := by decide +kernel
theorem dX5_digest_135 : decode cX5_digest 135 = .ok (.i2l, 1) := by decide +kernel
theorem dX5_digest_136 : decode cX5_digest 136 = .ok (.ladd, 1) := by decide +kernel
theorem dX5_digest_137 : decode cX5_digest 137 = .ok (.lstore_n 1, 1) := by decide +kernel
theorem dX5_digest_138 : decode cX5_digest 138 = .ok (.iinc 3 1, 3) := by decide +kernel
theorem dX5_digest_141 : decode cX5_digest 141 = .ok (.goto (-30), 3) := by decide +kernel
theorem dX5_digest_144 : decode cX5_digest 144 = .ok (.lload_n 1, 1) := by decide +kernel
theorem dX5_digest_145 : decode cX5_digest 145 = .ok (.lreturn, 1) := by decide +kernel
theorem dX5_refuse_0 : decode cX5_refuse 0 = .ok (.iload_n 1, 1) := by decide +kernel
theorem dX5_refuse_1 : decode cX5_refuse 1 = .ok (.bipush (-2), 2) := by decide +kernel
theorem dX5_refuse_3 : decode cX5_refuse 3 = .ok (.if_icmp .ne 16, 3) := by decide +kernel
theorem dX5_refuse_6 : decode cX5_refuse 6 = .ok (.aload_n 0, 1) := by decide +kernel
theorem dX5_refuse_7 : decode cX5_refuse 7 = .ok (.dup, 1) := by decide +kernel
theorem dX5_refuse_8 : decode cX5_refuse 8 = .ok (.getfield 216, 3) := by decide +kernel
theorem dX5_refuse_11 : decode cX5_refuse 11 = .ok (.iconst 1, 1) := by decide +kernel
theorem dX5_refuse_12 : decode cX5_refuse 12 = .ok (.iadd, 1) := by decide +kernel
theorem dX5_refuse_13 : decode cX5_refuse 13 = .ok (.putfield 216, 3) := by decide +kernel
theorem dX5_refuse_16 : decode cX5_refuse 16 = .ok (.goto 13, 3) := by decide +kernel
theorem dX5_refuse_19 : decode cX5_refuse 19 = .ok (.aload_n 0, 1) := by decide +kernel
theorem dX5_refuse_20 : decode cX5_refuse 20 = .ok (.dup, 1) := by decide +kernel
theorem dX5_refuse_21 : decode cX5_refuse 21 = .ok (.getfield 219, 3) := by decide +kernel
theorem dX5_refuse_24 : decode cX5_refuse 24 = .ok (.iconst 1, 1) := by decide +kernel
theorem dX5_refuse_25 : decode cX5_refuse 25 = .ok (.iadd, 1) := by decide +kernel
theorem dX5_refuse_26 : decode cX5_refuse 26 = .ok (.putfield 219, 3) := by decide +kernel
theorem dX5_refuse_29 : decode cX5_refuse 29 = .ok (.iload_n 1, 1) := by decide +kernel
theorem dX5_refuse_30 : decode cX5_refuse 30 = .ok (.ireturn, 1) := by decide +kernel
theorem dX5_isSeed_0 : decode cX5_isSeed 0 = .ok (.iload_n 0, 1) := by decide +kernel
theorem dX5_isSeed_1 : decode cX5_isSeed 1 = .ok (.ifCond .lt 13, 3) := by decide +kernel
theorem dX5_isSeed_4 : decode cX5_isSeed 4 = .ok (.iload_n 0, 1) := by decide +kernel
theorem dX5_isSeed_5 : decode cX5_isSeed 5 = .ok (.ldc 222, 2) := by decide +kernel
theorem dX5_isSeed_7 : decode cX5_isSeed 7 = .ok (.if_icmp .gt 7, 3) := by decide +kernel
theorem dX5_isSeed_10 : decode cX5_isSeed 10 = .ok (.iconst 1, 1) := by decide +kernel
theorem dX5_isSeed_11 : decode cX5_isSeed 11 = .ok (.goto 4, 3) := by decide +kernel
theorem dX5_isSeed_14 : decode cX5_isSeed 14 = .ok (.iconst 0, 1) := by decide +kernel
theorem dX5_isSeed_15 : decode cX5_isSeed 15 = .ok (.ireturn, 1) := by decide +kernel
theorem dX5_areSeeds_0 : decode cX5_areSeeds 0 = .ok (.iload_n 0, 1) := by decide +kernel
theorem dX5_areSeeds_1 : decode cX5_areSeeds 1 = .ok (.invokestatic 77, 3) := by decide +kernel
theorem dX5_areSeeds_4 : decode cX5_areSeeds 4 = .ok (.ifCond .eq 26, 3) := by decide +kernel
theorem dX5_areSeeds_7 : decode cX5_areSeeds 7 = .ok (.iload_n 1, 1) := by decide +kernel
theorem dX5_areSeeds_8 : decode cX5_areSeeds 8 = .ok (.iconst 1, 1) := by decide +kernel
theorem dX5_areSeeds_9 : decode cX5_areSeeds 9 = .ok (.if_icmp .lt 21, 3) := by decide +kernel
theorem dX5_areSeeds_12 : decode cX5_areSeeds 12 = .ok (.iload_n 1, 1) := by decide +kernel
theorem dX5_areSeeds_13 : decode cX5_areSeeds 13 = .ok (.bipush 60, 2) := by decide +kernel
theorem dX5_areSeeds_15 : decode cX5_areSeeds 15 = .ok (.if_icmp .gt 15, 3) := by decide +kernel
theorem dX5_areSeeds_18 : decode cX5_areSeeds 18 = .ok (.iload_n 0, 1) := by decide +kernel
theorem dX5_areSeeds_19 : decode cX5_areSeeds 19 = .ok (.iload_n 1, 1) := by decide +kernel
theorem dX5_areSeeds_20 : decode cX5_areSeeds 20 = .ok (.iadd, 1) := by decide +kernel
theorem dX5_areSeeds_21 : decode cX5_areSeeds 21 = .ok (.ldc 223, 2) := by decide +kernel
theorem dX5_areSeeds_23 : decode cX5_areSeeds 23 = .ok (.if_icmp .gt 7, 3) := by decide +kernel
theorem dX5_areSeeds_26 : decode cX5_areSeeds 26 = .ok (.iconst 1, 1) := by decide +kernel
theorem dX5_areSeeds_27 : decode cX5_areSeeds 27 = .ok (.goto 4, 3) := by decide +kernel
theorem dX5_areSeeds_30 : decode cX5_areSeeds 30 = .ok (.iconst 0, 1) := by decide +kernel
theorem dX5_areSeeds_31 : decode cX5_areSeeds 31 = .ok (.ireturn, 1) := by decide +kernel
theorem dX5_nextX_0 : decode cX5_nextX 0 = .ok (.lload_n 0, 1) := by decide +kernel
theorem dX5_nextX_1 : decode cX5_nextX 1 = .ok (.ldc2_w 224, 3) := by decide +kernel
theorem dX5_nextX_4 : decode cX5_nextX 4 = .ok (.lmul, 1) := by decide +kernel
theorem dX5_nextX_5 : decode cX5_nextX 5 = .ok (.ldc2_w 226, 3) := by decide +kernel
theorem dX5_nextX_8 : decode cX5_nextX 8 = .ok (.ladd, 1) := by decide +kernel
theorem dX5_nextX_9 : decode cX5_nextX 9 = .ok (.ldc2_w 228, 3) := by decide +kernel
theorem dX5_nextX_12 : decode cX5_nextX 12 = .ok (.lrem, 1) := by decide +kernel
theorem dX5_nextX_13 : decode cX5_nextX 13 = .ok (.lreturn, 1) := by decide +kernel
theorem dX5_knownOf_0 : decode cX5_knownOf 0 = .ok (.iload_n 2, 1) := by decide +kernel
theorem dX5_knownOf_1 : decode cX5_knownOf 1 = .ok (.iconst 5, 1) := by decide +kernel
theorem dX5_knownOf_2 : decode cX5_knownOf 2 = .ok (.if_icmp .ne 20, 3) := by decide +kernel
theorem dX5_knownOf_5 : decode cX5_knownOf 5 = .ok (.aload_n 0, 1) := by decide +kernel
theorem dX5_knownOf_6 : decode cX5_knownOf 6 = .ok (.getfield 19, 3) := by decide +kernel
theorem dX5_knownOf_9 : decode cX5_knownOf 9 = .ok (.iload_n 1, 1) := by decide +kernel
theorem dX5_knownOf_10 : decode cX5_knownOf 10 = .ok (.invokevirtual 143, 3) := by decide +kernel
theorem dX5_knownOf_13 : decode cX5_knownOf 13 = .ok (.ifCond .eq 7, 3) := by decide +kernel
theorem dX5_knownOf_16 : decode cX5_knownOf 16 = .ok (.iconst 1, 1) := by decide +kernel
theorem dX5_knownOf_17 : decode cX5_knownOf 17 = .ok (.goto 4, 3) := by decide +kernel
theorem dX5_knownOf_20 : decode cX5_knownOf 20 = .ok (.iconst 0, 1) := by decide +kernel
theorem dX5_knownOf_21 : decode cX5_knownOf 21 = .ok (.ireturn, 1) := by decide +kernel
theorem dX5_knownOf_22 : decode cX5_knownOf 22 = .ok (.aload_n 0, 1) := by decide +kernel
theorem dX5_knownOf_23 : decode cX5_knownOf 23 = .ok (.getfield 10, 3) := by decide +kernel
theorem dX5_knownOf_26 : decode cX5_knownOf 26 = .ok (.iload_n 1, 1) := by decide +kernel
theorem dX5_knownOf_27 : decode cX5_knownOf 27 = .ok (.iload_n 2, 1) := by decide +kernel
theorem dX5_knownOf_28 : decode cX5_knownOf 28 = .ok (.invokevirtual 146, 3) := by decide +kernel
theorem dX5_knownOf_31 : decode cX5_knownOf 31 = .ok (.ireturn, 1) := by decide +kernel
theorem dX5_changeMethod_0 : decode cX5_changeMethod 0 = .ok (.aload_n 0, 1) := by decide +kernel
theorem dX5_changeMethod_1 : decode cX5_changeMethod 1 = .ok (.getfield 114, 3) := by decide +kernel
theorem dX5_changeMethod_4 : decode cX5_changeMethod 4 = .ok (.istore_n 2, 1) := by decide +kernel
theorem dX5_changeMethod_5 : decode cX5_changeMethod 5 = .ok (.aload_n 0, 1) := by decide +kernel
theorem dX5_changeMethod_6 : decode cX5_changeMethod 6 = .ok (.iload_n 1, 1) := by decide +kernel
theorem dX5_changeMethod_7 : decode cX5_changeMethod 7 = .ok (.putfield 114, 3) := by decide +kernel
theorem dX5_changeMethod_10 : decode cX5_changeMethod 10 = .ok (.iload_n 2, 1) := by decide +kernel
theorem dX5_changeMethod_11 : decode cX5_changeMethod 11 = .ok (.ireturn, 1) := by decide +kernel
theorem dX5_state_0 : decode cX5_state 0 = .ok (.iload_n 1, 1) := by decide +kernel
theorem dX5_state_1 : decode cX5_state 1 = .ok (.tableswitch 72 0 5 #[39, 44, 46, 51, 59, 67], 39) := by decide +kernel
theorem dX5_state_40 : decode cX5_state 40 = .ok (.aload_n 0, 1) := by decide +kernel
theorem dX5_state_41 : decode cX5_state 41 = .ok (.getfield 216, 3) := by decide +kernel
theorem dX5_state_44 : decode cX5_state 44 = .ok (.ireturn, 1) := by decide +kernel
theorem dX5_state_45 : decode cX5_state 45 = .ok (.iconst 0, 1) := by decide +kernel
theorem dX5_state_46 : decode cX5_state 46 = .ok (.ireturn, 1) := by decide +kernel
theorem dX5_state_47 : decode cX5_state 47 = .ok (.aload_n 0, 1) := by decide +kernel
theorem dX5_state_48 : decode cX5_state 48 = .ok (.getfield 219, 3) := by decide +kernel
theorem dX5_state_51 : decode cX5_state 51 = .ok (.ireturn, 1) := by decide +kernel
theorem dX5_state_52 : decode cX5_state 52 = .ok (.aload_n 0, 1) := by decide +kernel
theorem dX5_state_53 : decode cX5_state 53 = .ok (.getfield 36, 3) := by decide +kernel
theorem dX5_state_56 : decode cX5_state 56 = .ok (.getfield 187, 3) := by decide +kernel
theorem dX5_state_59 : decode cX5_state 59 = .ok (.ireturn, 1) := by decide +kernel
theorem dX5_state_60 : decode cX5_state 60 = .ok (.aload_n 0, 1) := by decide +kernel
theorem dX5_state_61 : decode cX5_state 61 = .ok (.getfield 10, 3) := by decide +kernel
theorem dX5_state_64 : decode cX5_state 64 = .ok (.getfield 55, 3) := by decide +kernel
theorem dX5_state_67 : decode cX5_state 67 = .ok (.ireturn, 1) := by decide +kernel
theorem dX5_state_68 : decode cX5_state 68 = .ok (.aload_n 0, 1) := by decide +kernel
theorem dX5_state_69 : decode cX5_state 69 = .ok (.getfield 114, 3) := by decide +kernel
theorem dX5_state_72 : decode cX5_state 72 = .ok (.ireturn, 1) := by decide +kernel
theorem dX5_state_73 : decode cX5_state 73 = .ok (.aload_n 0, 1) := by decide +kernel
theorem dX5_state_74 : decode cX5_state 74 = .ok (.getfield 43, 3) := by decide +kernel
theorem dX5_state_77 : decode cX5_state 77 = .ok (.getfield 195, 3) := by decide +kernel
theorem dX5_state_80 : decode cX5_state 80 = .ok (.ireturn, 1) := by decide +kernel
theorem dX5_walksWith_0 : decode cX5_walksWith 0 = .ok (.iconst 0, 1) := by decide +kernel
theorem dX5_walksWith_1 : decode cX5_walksWith 1 = .ok (.istore 4, 2) := by decide +kernel
theorem dX5_walksWith_3 : decode cX5_walksWith 3 = .ok (.iconst 0, 1) := by decide +kernel
theorem dX5_walksWith_4 : decode cX5_walksWith 4 = .ok (.istore 5, 2) := by decide +kernel
theorem dX5_walksWith_6 : decode cX5_walksWith 6 = .ok (.iload 5, 2) := by decide +kernel
theorem dX5_walksWith_8 : decode cX5_walksWith 8 = .ok (.iload_n 3, 1) := by decide +kernel
theorem dX5_walksWith_9 : decode cX5_walksWith 9 = .ok (.if_icmp .ge 44, 3) := by decide +kernel
theorem dX5_walksWith_12 : decode cX5_walksWith 12 = .ok (.aload_n 0, 1) := by decide +kernel
theorem dX5_walksWith_13 : decode cX5_walksWith 13 = .ok (.getfield 23, 3) := by decide +kernel
theorem dX5_walksWith_16 : decode cX5_walksWith 16 = .ok (.aload_n 0, 1) := by decide +kernel
theorem dX5_walksWith_17 : decode cX5_walksWith 17 = .ok (.getfield 10, 3) := by decide +kernel
theorem dX5_walksWith_20 : decode cX5_walksWith 20 = .ok (.aload_n 0, 1) := by decide +kernel
theorem dX5_walksWith_21 : decode cX5_walksWith 21 = .ok (.getfield 114, 3) := by decide +kernel
theorem dX5_walksWith_24 : decode cX5_walksWith 24 = .ok (.iload_n 2, 1) := by decide +kernel
theorem dX5_walksWith_25 : decode cX5_walksWith 25 = .ok (.iload 5, 2) := by decide +kernel
theorem dX5_walksWith_27 : decode cX5_walksWith 27 = .ok (.iadd, 1) := by decide +kernel
theorem dX5_walksWith_28 : decode cX5_walksWith 28 = .ok (.invokevirtual 117, 3) := by decide +kernel
theorem dX5_walksWith_31 : decode cX5_walksWith 31 = .ok (.aload_n 0, 1) := by decide +kernel
theorem dX5_walksWith_32 : decode cX5_walksWith 32 = .ok (.getfield 23, 3) := by decide +kernel
theorem dX5_walksWith_35 : decode cX5_walksWith 35 = .ok (.getfield 121, 3) := by decide +kernel
theorem dX5_walksWith_38 : decode cX5_walksWith 38 = .ok (.iload_n 1, 1) := by decide +kernel
theorem dX5_walksWith_39 : decode cX5_walksWith 39 = .ok (.iand, 1) := by decide +kernel
theorem dX5_walksWith_40 : decode cX5_walksWith 40 = .ok (.iload_n 1, 1) := by decide +kernel
theorem dX5_walksWith_41 : decode cX5_walksWith 41 = .ok (.if_icmp .ne 6, 3) := by decide +kernel
theorem dX5_walksWith_44 : decode cX5_walksWith 44 = .ok (.iinc 4 1, 3) := by decide +kernel
theorem dX5_walksWith_47 : decode cX5_walksWith 47 = .ok (.iinc 5 1, 3) := by decide +kernel
theorem dX5_walksWith_50 : decode cX5_walksWith 50 = .ok (.goto (-44), 3) := by decide +kernel
theorem dX5_walksWith_53 : decode cX5_walksWith 53 = .ok (.iload 4, 2) := by decide +kernel
theorem dX5_walksWith_55 : decode cX5_walksWith 55 = .ok (.ireturn, 1) := by decide +kernel
theorem dX5_perform_0 : decode cX5_perform 0 = .ok (.aload_n 0, 1) := by decide +kernel
theorem dX5_perform_1 : decode cX5_perform 1 = .ok (.getfield 36, 3) := by decide +kernel
theorem dX5_perform_4 : decode cX5_perform 4 = .ok (.iload_n 1, 1) := by decide +kernel
theorem dX5_perform_5 : decode cX5_perform 5 = .ok (.invokevirtual 230, 3) := by decide +kernel
theorem dX5_perform_8 : decode cX5_perform 8 = .ok (.istore_n 2, 1) := by decide +kernel
theorem dX5_perform_9 : decode cX5_perform 9 = .ok (.iload_n 2, 1) := by decide +kernel
theorem dX5_perform_10 : decode cX5_perform 10 = .ok (.iconst 5, 1) := by decide +kernel
theorem dX5_perform_11 : decode cX5_perform 11 = .ok (.if_icmp .ge 21, 3) := by decide +kernel
theorem dX5_perform_14 : decode cX5_perform 14 = .ok (.aload_n 0, 1) := by decide +kernel
theorem dX5_perform_15 : decode cX5_perform 15 = .ok (.getfield 43, 3) := by decide +kernel
theorem dX5_perform_18 : decode cX5_perform 18 = .ok (.aload_n 0, 1) := by decide +kernel
theorem dX5_perform_19 : decode cX5_perform 19 = .ok (.iload_n 2, 1) := by decide +kernel
theorem dX5_perform_20 : decode cX5_perform 20 = .ok (.invokevirtual 111, 3) := by decide +kernel
theorem dX5_perform_23 : decode cX5_perform 23 = .ok (.invokestatic 233, 3) := by decide +kernel
theorem dX5_perform_26 : decode cX5_perform 26 = .ok (.invokevirtual 237, 3) := by decide +kernel
theorem dX5_perform_29 : decode cX5_perform 29 = .ok (.goto 179, 3) := by decide +kernel
theorem dX5_perform_32 : decode cX5_perform 32 = .ok (.iload_n 2, 1) := by decide +kernel
theorem dX5_perform_33 : decode cX5_perform 33 = .ok (.iconst 5, 1) := by decide +kernel
theorem dX5_perform_34 : decode cX5_perform 34 = .ok (.if_icmp .ne 65, 3) := by decide +kernel
theorem dX5_perform_37 : decode cX5_perform 37 = .ok (.aload_n 0, 1) := by decide +kernel
theorem dX5_perform_38 : decode cX5_perform 38 = .ok (.getfield 43, 3) := by decide +kernel
theorem dX5_perform_41 : decode cX5_perform 41 = .ok (.aload_n 0, 1) := by decide +kernel
theorem dX5_perform_42 : decode cX5_perform 42 = .ok (.getfield 10, 3) := by decide +kernel
theorem dX5_perform_45 : decode cX5_perform 45 = .ok (.aload_n 0, 1) := by decide +kernel
theorem dX5_perform_46 : decode cX5_perform 46 = .ok (.getfield 36, 3) := by decide +kernel
theorem dX5_perform_49 : decode cX5_perform 49 = .ok (.iload_n 1, 1) := by decide +kernel
theorem dX5_perform_50 : decode cX5_perform 50 = .ok (.iconst 0, 1) := by decide +kernel
theorem dX5_perform_51 : decode cX5_perform 51 = .ok (.invokevirtual 241, 3) := by decide +kernel
theorem dX5_perform_54 : decode cX5_perform 54 = .ok (.aload_n 0, 1) := by decide +kernel
theorem dX5_perform_55 : decode cX5_perform 55 = .ok (.getfield 36, 3) := by decide +kernel
theorem dX5_perform_58 : decode cX5_perform 58 = .ok (.iload_n 1, 1) := by decide +kernel
theorem dX5_perform_59 : decode cX5_perform 59 = .ok (.iconst 1, 1) := by decide +kernel
theorem dX5_perform_60 : decode cX5_perform 60 = .ok (.invokevirtual 241, 3) := by decide +kernel
theorem dX5_perform_63 : decode cX5_perform 63 = .ok (.aload_n 0, 1) := by decide +kernel
theorem dX5_perform_64 : decode cX5_perform 64 = .ok (.getfield 36, 3) := by decide +kernel
theorem dX5_perform_67 : decode cX5_perform 67 = .ok (.iload_n 1, 1) := by decide +kernel
theorem dX5_perform_68 : decode cX5_perform 68 = .ok (.iconst 2, 1) := by decide +kernel
theorem dX5_perform_69 : decode cX5_perform 69 = .ok (.invokevirtual 241, 3) := by decide +kernel
theorem dX5_perform_72 : decode cX5_perform 72 = .ok (.aload_n 0, 1) := by decide +kernel
theorem dX5_perform_73 : decode cX5_perform 73 = .ok (.getfield 36, 3) := by decide +kernel
theorem dX5_perform_76 : decode cX5_perform 76 = .ok (.iload_n 1, 1) := by decide +kernel
theorem dX5_perform_77 : decode cX5_perform 77 = .ok (.iconst 3, 1) := by decide +kernel
theorem dX5_perform_78 : decode cX5_perform 78 = .ok (.invokevirtual 241, 3) := by decide +kernel
theorem dX5_perform_81 : decode cX5_perform 81 = .ok (.aload_n 0, 1) := by decide +kernel
theorem dX5_perform_82 : decode cX5_perform 82 = .ok (.getfield 36, 3) := by decide +kernel
theorem dX5_perform_85 : decode cX5_perform 85 = .ok (.iload_n 1, 1) := by decide +kernel
theorem dX5_perform_86 : decode cX5_perform 86 = .ok (.iconst 4, 1) := by decide +kernel
theorem dX5_perform_87 : decode cX5_perform 87 = .ok (.invokevirtual 241, 3) := by decide +kernel
theorem dX5_perform_90 : decode cX5_perform 90 = .ok (.invokevirtual 59, 3) := by decide +kernel
theorem dX5_perform_93 : decode cX5_perform 93 = .ok (.invokevirtual 244, 3) := by decide +kernel
theorem dX5_perform_96 : decode cX5_perform 96 = .ok (.goto 112, 3) := by decide +kernel
theorem dX5_perform_99 : decode cX5_perform 99 = .ok (.iload_n 2, 1) := by decide +kernel
theorem dX5_perform_100 : decode cX5_perform 100 = .ok (.bipush 11, 2) := by decide +kernel
theorem dX5_perform_102 : decode cX5_perform 102 = .ok (.if_icmp .ne 44, 3) := by decide +kernel
theorem dX5_perform_105 : decode cX5_perform 105 = .ok (.aload_n 0, 1) := by decide +kernel
theorem dX5_perform_106 : decode cX5_perform 106 = .ok (.getfield 19, 3) := by decide +kernel
theorem dX5_perform_109 : decode cX5_perform 109 = .ok (.aload_n 0, 1) := by decide +kernel
theorem dX5_perform_110 : decode cX5_perform 110 = .ok (.getfield 10, 3) := by decide +kernel
theorem dX5_perform_113 : decode cX5_perform 113 = .ok (.aload_n 0, 1) := by decide +kernel
theorem dX5_perform_114 : decode cX5_perform 114 = .ok (.getfield 114, 3) := by decide +kernel
theorem dX5_perform_117 : decode cX5_perform 117 = .ok (.aload_n 0, 1) := by decide +kernel
theorem dX5_perform_118 : decode cX5_perform 118 = .ok (.getfield 36, 3) := by decide +kernel
theorem dX5_perform_121 : decode cX5_perform 121 = .ok (.iload_n 1, 1) := by decide +kernel
theorem dX5_perform_122 : decode cX5_perform 122 = .ok (.iconst 0, 1) := by decide +kernel
theorem dX5_perform_123 : decode cX5_perform 123 = .ok (.invokevirtual 241, 3) := by decide +kernel
theorem dX5_perform_126 : decode cX5_perform 126 = .ok (.invokevirtual 117, 3) := by decide +kernel
theorem dX5_perform_129 : decode cX5_perform 129 = .ok (.aload_n 0, 1) := by decide +kernel
theorem dX5_perform_130 : decode cX5_perform 130 = .ok (.getfield 43, 3) := by decide +kernel
theorem dX5_perform_133 : decode cX5_perform 133 = .ok (.aload_n 0, 1) := by decide +kernel
theorem dX5_perform_134 : decode cX5_perform 134 = .ok (.getfield 19, 3) := by decide +kernel
theorem dX5_perform_137 : decode cX5_perform 137 = .ok (.getfield 121, 3) := by decide +kernel
theorem dX5_perform_140 : decode cX5_perform 140 = .ok (.invokevirtual 247, 3) := by decide +kernel
theorem dX5_perform_143 : decode cX5_perform 143 = .ok (.goto 65, 3) := by decide +kernel
theorem dX5_perform_146 : decode cX5_perform 146 = .ok (.iload_n 2, 1) := by decide +kernel
theorem dX5_perform_147 : decode cX5_perform 147 = .ok (.bipush 12, 2) := by decide +kernel
theorem dX5_perform_149 : decode cX5_perform 149 = .ok (.if_icmp .ne 23, 3) := by decide +kernel
theorem dX5_perform_152 : decode cX5_perform 152 = .ok (.aload_n 0, 1) := by decide +kernel
theorem dX5_perform_153 : decode cX5_perform 153 = .ok (.getfield 43, 3) := by decide +kernel
theorem dX5_perform_156 : decode cX5_perform 156 = .ok (.aload_n 0, 1) := by decide +kernel
theorem dX5_perform_157 : decode cX5_perform 157 = .ok (.getfield 19, 3) := by decide +kernel
theorem dX5_perform_160 : decode cX5_perform 160 = .ok (.getfield 121, 3) := by decide +kernel
theorem dX5_perform_163 : decode cX5_perform 163 = .ok (.invokestatic 124, 3) := by decide +kernel
theorem dX5_perform_166 : decode cX5_perform 166 = .ok (.invokevirtual 244, 3) := by decide +kernel
theorem dX5_perform_169 : decode cX5_perform 169 = .ok (.goto 39, 3) := by decide +kernel
theorem dX5_perform_172 : decode cX5_perform 172 = .ok (.aload_n 0, 1) := by decide +kernel
theorem dX5_perform_173 : decode cX5_perform 173 = .ok (.getfield 43, 3) := by decide +kernel
theorem dX5_perform_176 : decode cX5_perform 176 = .ok (.aload_n 0, 1) := by decide +kernel
theorem dX5_perform_177 : decode cX5_perform 177 = .ok (.getfield 10, 3) := by decide +kernel
theorem dX5_perform_180 : decode cX5_perform 180 = .ok (.aload_n 0, 1) := by decide +kernel
theorem dX5_perform_181 : decode cX5_perform 181 = .ok (.getfield 36, 3) := by decide +kernel
theorem dX5_perform_184 : decode cX5_perform 184 = .ok (.iload_n 1, 1) := by decide +kernel
theorem dX5_perform_185 : decode cX5_perform 185 = .ok (.iconst 0, 1) := by decide +kernel
theorem dX5_perform_186 : decode cX5_perform 186 = .ok (.invokevirtual 241, 3) := by decide +kernel
theorem dX5_perform_189 : decode cX5_perform 189 = .ok (.iload_n 2, 1) := by decide +kernel
theorem dX5_perform_190 : decode cX5_perform 190 = .ok (.bipush 6, 2) := by decide +kernel
theorem dX5_perform_192 : decode cX5_perform 192 = .ok (.isub, 1) := by decide +kernel
theorem dX5_perform_193 : decode cX5_perform 193 = .ok (.aload_n 0, 1) := by decide +kernel
theorem dX5_perform_194 : decode cX5_perform 194 = .ok (.getfield 36, 3) := by decide +kernel
theorem dX5_perform_197 : decode cX5_perform 197 = .ok (.iload_n 1, 1) := by decide +kernel
theorem dX5_perform_198 : decode cX5_perform 198 = .ok (.iconst 1, 1) := by decide +kernel
theorem dX5_perform_199 : decode cX5_perform 199 = .ok (.invokevirtual 241, 3) := by decide +kernel
theorem dX5_perform_202 : decode cX5_perform 202 = .ok (.invokevirtual 67, 3) := by decide +kernel
theorem dX5_perform_205 : decode cX5_perform 205 = .ok (.invokevirtual 244, 3) := by decide +kernel
theorem dX5_perform_208 : decode cX5_perform 208 = .ok (.return_, 1) := by decide +kernel
theorem dX6_init_0 : decode cX6_init 0 = .ok (.aload_n 0, 1) := by decide +kernel
theorem dX6_init_1 : decode cX6_init 1 = .ok (.invokespecial 1, 3) := by decide +kernel
theorem dX6_init_4 : decode cX6_init 4 = .ok (.aload_n 0, 1) := by decide +kernel
theorem dX6_init_5 : decode cX6_init 5 = .ok (.bipush 60, 2) := by decide +kernel
theorem dX6_init_7 : decode cX6_init 7 = .ok (.newarray .int, 2) := by decide +kernel
theorem dX6_init_9 : decode cX6_init 9 = .ok (.putfield 7, 3) := by decide +kernel
theorem dX6_init_12 : decode cX6_init 12 = .ok (.aload_n 0, 1) := by decide +kernel
theorem dX6_init_13 : decode cX6_init 13 = .ok (.iconst 3, 1) := by decide +kernel
theorem dX6_init_14 : decode cX6_init 14 = .ok (.newarray .int, 2) := by decide +kernel
theorem dX6_init_16 : decode cX6_init 16 = .ok (.putfield 13, 3) := by decide +kernel
theorem dX6_init_19 : decode cX6_init 19 = .ok (.aload_n 0, 1) := by decide +kernel
theorem dX6_init_20 : decode cX6_init 20 = .ok (.bipush 12, 2) := by decide +kernel
theorem dX6_init_22 : decode cX6_init 22 = .ok (.newarray .int, 2) := by decide +kernel
theorem dX6_init_24 : decode cX6_init 24 = .ok (.putfield 16, 3) := by decide +kernel
theorem dX6_init_27 : decode cX6_init 27 = .ok (.aload_n 0, 1) := by decide +kernel
theorem dX6_init_28 : decode cX6_init 28 = .ok (.bipush 36, 2) := by decide +kernel
theorem dX6_init_30 : decode cX6_init 30 = .ok (.newarray .int, 2) := by decide +kernel
theorem dX6_init_32 : decode cX6_init 32 = .ok (.putfield 19, 3) := by decide +kernel
theorem dX6_init_35 : decode cX6_init 35 = .ok (.aload_n 0, 1) := by decide +kernel
theorem dX6_init_36 : decode cX6_init 36 = .ok (.bipush 36, 2) := by decide +kernel
theorem dX6_init_38 : decode cX6_init 38 = .ok (.newarray .int, 2) := by decide +kernel
theorem dX6_init_40 : decode cX6_init 40 = .ok (.putfield 22, 3) := by decide +kernel
theorem dX6_init_43 : decode cX6_init 43 = .ok (.aload_n 0, 1) := by decide +kernel
theorem dX6_init_44 : decode cX6_init 44 = .ok (.sipush 4096, 3) := by decide +kernel
theorem dX6_init_47 : decode cX6_init 47 = .ok (.newarray .boolean, 2) := by decide +kernel
theorem dX6_init_49 : decode cX6_init 49 = .ok (.putfield 25, 3) := by decide +kernel
theorem dX6_init_52 : decode cX6_init 52 = .ok (.aload_n 0, 1) := by decide +kernel
theorem dX6_init_53 : decode cX6_init 53 = .ok (.bipush 120, 2) := by decide +kernel
theorem dX6_init_55 : decode cX6_init 55 = .ok (.newarray .int, 2) := by decide +kernel
theorem dX6_init_57 : decode cX6_init 57 = .ok (.putfield 29, 3) := by decide +kernel
theorem dX6_init_60 : decode cX6_init 60 = .ok (.aload_n 0, 1) := by decide +kernel
theorem dX6_init_61 : decode cX6_init 61 = .ok (.sipush 300, 3) := by decide +kernel
theorem dX6_init_64 : decode cX6_init 64 = .ok (.newarray .int, 2) := by decide +kernel
theorem dX6_init_66 : decode cX6_init 66 = .ok (.putfield 32, 3) := by decide +kernel
theorem dX6_init_69 : decode cX6_init 69 = .ok (.aload_n 0, 1) := by decide +kernel
theorem dX6_init_70 : decode cX6_init 70 = .ok (.iconst 5, 1) := by decide +kernel
theorem dX6_init_71 : decode cX6_init 71 = .ok (.newarray .int, 2) := by decide +kernel
theorem dX6_init_73 : decode cX6_init 73 = .ok (.putfield 35, 3) := by decide +kernel
theorem dX6_init_76 : decode cX6_init 76 = .ok (.return_, 1) := by decide +kernel
theorem dX6_in_0 : decode cX6_in 0 = .ok (.lload_n 0, 1) := by decide +kernel
theorem dX6_in_1 : decode cX6_in 1 = .ok (.lload_n 2, 1) := by decide +kernel
theorem dX6_in_2 : decode cX6_in 2 = .ok (.lcmp, 1) := by decide +kernel
theorem dX6_in_3 : decode cX6_in 3 = .ok (.ifCond .lt 14, 3) := by decide +kernel
theorem dX6_in_6 : decode cX6_in 6 = .ok (.lload_n 0, 1) := by decide +kernel
theorem dX6_in_7 : decode cX6_in 7 = .ok (.lload 4, 2) := by decide +kernel
theorem dX6_in_9 : decode cX6_in 9 = .ok (.lcmp, 1) := by decide +kernel
theorem dX6_in_10 : decode cX6_in 10 = .ok (.ifCond .gt 7, 3) := by decide +kernel
theorem dX6_in_13 : decode cX6_in 13 = .ok (.iconst 1, 1) := by decide +kernel
theorem dX6_in_14 : decode cX6_in 14 = .ok (.goto 4, 3) := by decide +kernel
theorem dX6_in_17 : decode cX6_in 17 = .ok (.iconst 0, 1) := by decide +kernel
theorem dX6_in_18 : decode cX6_in 18 = .ok (.ireturn, 1) := by decide +kernel
theorem dX6_bad_0 : decode cX6_bad 0 = .ok (.aload_n 0, 1) := by decide +kernel
theorem dX6_bad_1 : decode cX6_bad 1 = .ok (.getfield 13, 3) := by decide +kernel
theorem dX6_bad_4 : decode cX6_bad 4 = .ok (.iconst 0, 1) := by decide +kernel
theorem dX6_bad_5 : decode cX6_bad 5 = .ok (.dup2, 1) := by decide +kernel
theorem dX6_bad_6 : decode cX6_bad 6 = .ok (.iaload, 1) := by decide +kernel
theorem dX6_bad_7 : decode cX6_bad 7 = .ok (.iconst 1, 1) := by decide +kernel
theorem dX6_bad_8 : decode cX6_bad 8 = .ok (.iadd, 1) := by decide +kernel
theorem dX6_bad_9 : decode cX6_bad 9 = .ok (.iastore, 1) := by decide +kernel
theorem dX6_bad_10 : decode cX6_bad 10 = .ok (.iload_n 1, 1) := by decide +kernel
theorem dX6_bad_11 : decode cX6_bad 11 = .ok (.ireturn, 1) := by decide +kernel
theorem dX6_full_0 : decode cX6_full 0 = .ok (.aload_n 0, 1) := by decide +kernel
theorem dX6_full_1 : decode cX6_full 1 = .ok (.getfield 13, 3) := by decide +kernel
theorem dX6_full_4 : decode cX6_full 4 = .ok (.iconst 2, 1) := by decide +kernel
theorem dX6_full_5 : decode cX6_full 5 = .ok (.dup2, 1) := by decide +kernel
theorem dX6_full_6 : decode cX6_full 6 = .ok (.iaload, 1) := by decide +kernel
theorem dX6_full_7 : decode cX6_full 7 = .ok (.iconst 1, 1) := by decide +kernel
theorem dX6_full_8 : decode cX6_full 8 = .ok (.iadd, 1) := by decide +kernel
theorem dX6_full_9 : decode cX6_full 9 = .ok (.iastore, 1) := by decide +kernel
theorem dX6_full_10 : decode cX6_full 10 = .ok (.bipush (-4), 2) := by decide +kernel
theorem dX6_full_12 : decode cX6_full 12 = .ok (.ireturn, 1) := by decide +kernel
theorem dX6_isUnit_0 : decode cX6_isUnit 0 = .ok (.iload_n 1, 1) := by decide +kernel
theorem dX6_isUnit_1 : decode cX6_isUnit 1 = .ok (.i2l, 1) := by decide +kernel
theorem dX6_isUnit_2 : decode cX6_isUnit 2 = .ok (.lconst 0, 1) := by decide +kernel
theorem dX6_isUnit_3 : decode cX6_isUnit 3 = .ok (.aload_n 0, 1) := by decide +kernel
theorem dX6_isUnit_4 : decode cX6_isUnit 4 = .ok (.getfield 38, 3) := by decide +kernel
theorem dX6_isUnit_7 : decode cX6_isUnit 7 = .ok (.iconst 1, 1) := by decide +kernel
theorem dX6_isUnit_8 : decode cX6_isUnit 8 = .ok (.isub, 1) := by decide +kernel
theorem dX6_isUnit_9 : decode cX6_isUnit 9 = .ok (.i2l, 1) := by decide +kernel
theorem dX6_isUnit_10 : decode cX6_isUnit 10 = .ok (.invokestatic 42, 3) := by decide +kernel
theorem dX6_isUnit_13 : decode cX6_isUnit 13 = .ok (.ireturn, 1) := by decide +kernel
theorem dX6_at_0 : decode cX6_at 0 = .ok (.aload_n 0, 1) := by decide +kernel
theorem dX6_at_1 : decode cX6_at 1 = .ok (.getfield 7, 3) := by decide +kernel
theorem dX6_at_4 : decode cX6_at 4 = .ok (.iconst 5, 1) := by decide +kernel
theorem dX6_at_5 : decode cX6_at 5 = .ok (.iload_n 1, 1) := by decide +kernel
theorem dX6_at_6 : decode cX6_at 6 = .ok (.imul, 1) := by decide +kernel
theorem dX6_at_7 : decode cX6_at 7 = .ok (.iload_n 2, 1) := by decide +kernel
theorem dX6_at_8 : decode cX6_at 8 = .ok (.iadd, 1) := by decide +kernel
theorem dX6_at_9 : decode cX6_at 9 = .ok (.iaload, 1) := by decide +kernel
theorem dX6_at_10 : decode cX6_at 10 = .ok (.ireturn, 1) := by decide +kernel
theorem dX6_mostOf_0 : decode cX6_mostOf 0 = .ok (.iload_n 0, 1) := by decide +kernel
theorem dX6_mostOf_1 : decode cX6_mostOf 1 = .ok (.ifCond .ne 8, 3) := by decide +kernel
theorem dX6_mostOf_4 : decode cX6_mostOf 4 = .ok (.bipush 12, 2) := by decide +kernel
theorem dX6_mostOf_6 : decode cX6_mostOf 6 = .ok (.goto 14, 3) := by decide +kernel
theorem dX6_mostOf_9 : decode cX6_mostOf 9 = .ok (.iload_n 0, 1) := by decide +kernel
theorem dX6_mostOf_10 : decode cX6_mostOf 10 = .ok (.iconst 2, 1) := by decide +kernel
theorem dX6_mostOf_11 : decode cX6_mostOf 11 = .ok (.if_icmp .ne 7, 3) := by decide +kernel
theorem dX6_mostOf_14 : decode cX6_mostOf 14 = .ok (.iconst 3, 1) := by decide +kernel
theorem dX6_mostOf_15 : decode cX6_mostOf 15 = .ok (.goto 5, 3) := by decide +kernel
theorem dX6_mostOf_18 : decode cX6_mostOf 18 = .ok (.bipush 99, 2) := by decide +kernel
theorem dX6_mostOf_20 : decode cX6_mostOf 20 = .ok (.ireturn, 1) := by decide +kernel
theorem dX6_has_0 : decode cX6_has 0 = .ok (.iload_n 0, 1) := by decide +kernel
theorem dX6_has_1 : decode cX6_has 1 = .ok (.iload_n 1, 1) := by decide +kernel
theorem dX6_has_2 : decode cX6_has 2 = .ok (.ishr, 1) := by decide +kernel
theorem dX6_has_3 : decode cX6_has 3 = .ok (.iconst 1, 1) := by decide +kernel
theorem dX6_has_4 : decode cX6_has 4 = .ok (.iand, 1) := by decide +kernel
theorem dX6_has_5 : decode cX6_has 5 = .ok (.iconst 1, 1) := by decide +kernel
theorem dX6_has_6 : decode cX6_has 6 = .ok (.if_icmp .ne 7, 3) := by decide +kernel
theorem dX6_has_9 : decode cX6_has 9 = .ok (.iconst 1, 1) := by decide +kernel
theorem dX6_has_10 : decode cX6_has 10 = .ok (.goto 4, 3) := by decide +kernel
theorem dX6_has_13 : decode cX6_has 13 = .ok (.iconst 0, 1) := by decide +kernel
theorem dX6_has_14 : decode cX6_has 14 = .ok (.ireturn, 1) := by decide +kernel
theorem dX6_bits_0 : decode cX6_bits 0 = .ok (.iconst 0, 1) := by decide +kernel
theorem dX6_bits_1 : decode cX6_bits 1 = .ok (.istore_n 1, 1) := by decide +kernel
theorem dX6_bits_2 : decode cX6_bits 2 = .ok (.iload_n 0, 1) := by decide +kernel
theorem dX6_bits_3 : decode cX6_bits 3 = .ok (.istore_n 2, 1) := by decide +kernel
theorem dX6_bits_4 : decode cX6_bits 4 = .ok (.iload_n 2, 1) := by decide +kernel
theorem dX6_bits_5 : decode cX6_bits 5 = .ok (.ifCond .le 16, 3) := by decide +kernel
theorem dX6_bits_8 : decode cX6_bits 8 = .ok (.iload_n 1, 1) := by decide +kernel
theorem dX6_bits_9 : decode cX6_bits 9 = .ok (.iload_n 2, 1) := by decide +kernel
theorem dX6_bits_10 : decode cX6_bits 10 = .ok (.iconst 1, 1) := by decide +kernel
theorem dX6_bits_11 : decode cX6_bits 11 = .ok (.iand, 1) := by decide +kernel
theorem dX6_bits_12 : decode cX6_bits 12 = .ok (.iadd, 1) := by decide +kernel
theorem dX6_bits_13 : decode cX6_bits 13 = .ok (.istore_n 1, 1) := by decide +kernel
theorem dX6_bits_14 : decode cX6_bits 14 = .ok (.iload_n 2, 1) := by decide +kernel
theorem dX6_bits_15 : decode cX6_bits 15 = .ok (.iconst 1, 1) := by decide +kernel
theorem dX6_bits_16 : decode cX6_bits 16 = .ok (.ishr, 1) := by decide +kernel
theorem dX6_bits_17 : decode cX6_bits 17 = .ok (.istore_n 2, 1) := by decide +kernel
theorem dX6_bits_18 : decode cX6_bits 18 = .ok (.goto (-14), 3) := by decide +kernel
theorem dX6_bits_21 : decode cX6_bits 21 = .ok (.iload_n 1, 1) := by decide +kernel
theorem dX6_bits_22 : decode cX6_bits 22 = .ok (.ireturn, 1) := by decide +kernel
theorem dX6_lays_0 : decode cX6_lays 0 = .ok (.iconst 5, 1) := by decide +kernel
theorem dX6_lays_1 : decode cX6_lays 1 = .ok (.aload_n 0, 1) := by decide +kernel
theorem dX6_lays_2 : decode cX6_lays 2 = .ok (.getfield 38, 3) := by decide +kernel
theorem dX6_lays_5 : decode cX6_lays 5 = .ok (.imul, 1) := by decide +kernel
theorem dX6_lays_6 : decode cX6_lays 6 = .ok (.istore 6, 2) := by decide +kernel
theorem dX6_lays_8 : decode cX6_lays 8 = .ok (.aload_n 0, 1) := by decide +kernel
theorem dX6_lays_9 : decode cX6_lays 9 = .ok (.getfield 7, 3) := by decide +kernel
theorem dX6_lays_12 : decode cX6_lays 12 = .ok (.iload 6, 2) := by decide +kernel
theorem dX6_lays_14 : decode cX6_lays 14 = .ok (.iload_n 1, 1) := by decide +kernel
theorem dX6_lays_15 : decode cX6_lays 15 = .ok (.iastore, 1) := by decide +kernel
theorem dX6_lays_16 : decode cX6_lays 16 = .ok (.aload_n 0, 1) := by decide +kernel
theorem dX6_lays_17 : decode cX6_lays 17 = .ok (.getfield 7, 3) := by decide +kernel
theorem dX6_lays_20 : decode cX6_lays 20 = .ok (.iload 6, 2) := by decide +kernel
theorem dX6_lays_22 : decode cX6_lays 22 = .ok (.iconst 1, 1) := by decide +kernel
theorem dX6_lays_23 : decode cX6_lays 23 = .ok (.iadd, 1) := by decide +kernel
theorem dX6_lays_24 : decode cX6_lays 24 = .ok (.iload_n 2, 1) := by decide +kernel
theorem dX6_lays_25 : decode cX6_lays 25 = .ok (.iastore, 1) := by decide +kernel
theorem dX6_lays_26 : decode cX6_lays 26 = .ok (.aload_n 0, 1) := by decide +kernel
theorem dX6_lays_27 : decode cX6_lays 27 = .ok (.getfield 7, 3) := by decide +kernel
theorem dX6_lays_30 : decode cX6_lays 30 = .ok (.iload 6, 2) := by decide +kernel
theorem dX6_lays_32 : decode cX6_lays 32 = .ok (.iconst 2, 1) := by decide +kernel
theorem dX6_lays_33 : decode cX6_lays 33 = .ok (.iadd, 1) := by decide +kernel
theorem dX6_lays_34 : decode cX6_lays 34 = .ok (.iload_n 3, 1) := by decide +kernel
theorem dX6_lays_35 : decode cX6_lays 35 = .ok (.iastore, 1) := by decide +kernel
theorem dX6_lays_36 : decode cX6_lays 36 = .ok (.aload_n 0, 1) := by decide +kernel
theorem dX6_lays_37 : decode cX6_lays 37 = .ok (.getfield 7, 3) := by decide +kernel
theorem dX6_lays_40 : decode cX6_lays 40 = .ok (.iload 6, 2) := by decide +kernel
theorem dX6_lays_42 : decode cX6_lays 42 = .ok (.iconst 3, 1) := by decide +kernel
theorem dX6_lays_43 : decode cX6_lays 43 = .ok (.iadd, 1) := by decide +kernel
theorem dX6_lays_44 : decode cX6_lays 44 = .ok (.iload 4, 2) := by decide +kernel
theorem dX6_lays_46 : decode cX6_lays 46 = .ok (.iastore, 1) := by decide +kernel
theorem dX6_lays_47 : decode cX6_lays 47 = .ok (.aload_n 0, 1) := by decide +kernel
theorem dX6_lays_48 : decode cX6_lays 48 = .ok (.getfield 7, 3) := by decide +kernel
theorem dX6_lays_51 : decode cX6_lays 51 = .ok (.iload 6, 2) := by decide +kernel
theorem dX6_lays_53 : decode cX6_lays 53 = .ok (.iconst 4, 1) := by decide +kernel
theorem dX6_lays_54 : decode cX6_lays 54 = .ok (.iadd, 1) := by decide +kernel
theorem dX6_lays_55 : decode cX6_lays 55 = .ok (.iload 5, 2) := by decide +kernel
theorem dX6_lays_57 : decode cX6_lays 57 = .ok (.iastore, 1) := by decide +kernel
theorem dX6_lays_58 : decode cX6_lays 58 = .ok (.aload_n 0, 1) := by decide +kernel
theorem dX6_lays_59 : decode cX6_lays 59 = .ok (.dup, 1) := by decide +kernel
theorem dX6_lays_60 : decode cX6_lays 60 = .ok (.getfield 38, 3) := by decide +kernel
theorem dX6_lays_63 : decode cX6_lays 63 = .ok (.iconst 1, 1) := by decide +kernel
theorem dX6_lays_64 : decode cX6_lays 64 = .ok (.iadd, 1) := by decide +kernel
theorem dX6_lays_65 : decode cX6_lays 65 = .ok (.putfield 38, 3) := by decide +kernel
theorem dX6_lays_68 : decode cX6_lays 68 = .ok (.return_, 1) := by decide +kernel
theorem dX6_unit_0 : decode cX6_unit 0 = .ok (.iload_n 1, 1) := by decide +kernel
theorem dX6_unit_1 : decode cX6_unit 1 = .ok (.i2l, 1) := by decide +kernel
theorem dX6_unit_2 : decode cX6_unit 2 = .ok (.lconst 0, 1) := by decide +kernel
theorem dX6_unit_3 : decode cX6_unit 3 = .ok (.iconst 0, 1) := by decide +kernel
theorem dX6_unit_4 : decode cX6_unit 4 = .ok (.invokestatic 46, 3) := by decide +kernel
theorem dX6_unit_7 : decode cX6_unit 7 = .ok (.i2l, 1) := by decide +kernel
theorem dX6_unit_8 : decode cX6_unit 8 = .ok (.invokestatic 42, 3) := by decide +kernel
theorem dX6_unit_11 : decode cX6_unit 11 = .ok (.ifCond .eq 61, 3) := by decide +kernel
theorem dX6_unit_14 : decode cX6_unit 14 = .ok (.iload_n 2, 1) := by decide +kernel
theorem dX6_unit_15 : decode cX6_unit 15 = .ok (.i2l, 1) := by decide +kernel
theorem dX6_unit_16 : decode cX6_unit 16 = .ok (.lconst 0, 1) := by decide +kernel
theorem dX6_unit_17 : decode cX6_unit 17 = .ok (.iconst 1, 1) := by decide +kernel
theorem dX6_unit_18 : decode cX6_unit 18 = .ok (.invokestatic 46, 3) := by decide +kernel
theorem dX6_unit_21 : decode cX6_unit 21 = .ok (.i2l, 1) := by decide +kernel
theorem dX6_unit_22 : decode cX6_unit 22 = .ok (.invokestatic 42, 3) := by decide +kernel
theorem dX6_unit_25 : decode cX6_unit 25 = .ok (.ifCond .eq 47, 3) := by decide +kernel
theorem dX6_unit_28 : decode cX6_unit 28 = .ok (.iload_n 3, 1) := by decide +kernel
theorem dX6_unit_29 : decode cX6_unit 29 = .ok (.i2l, 1) := by decide +kernel
theorem dX6_unit_30 : decode cX6_unit 30 = .ok (.lconst 0, 1) := by decide +kernel
theorem dX6_unit_31 : decode cX6_unit 31 = .ok (.iconst 2, 1) := by decide +kernel
theorem dX6_unit_32 : decode cX6_unit 32 = .ok (.invokestatic 46, 3) := by decide +kernel
theorem dX6_unit_35 : decode cX6_unit 35 = .ok (.i2l, 1) := by decide +kernel
theorem dX6_unit_36 : decode cX6_unit 36 = .ok (.invokestatic 42, 3) := by decide +kernel
theorem dX6_unit_39 : decode cX6_unit 39 = .ok (.ifCond .eq 33, 3) := by decide +kernel
theorem dX6_unit_42 : decode cX6_unit 42 = .ok (.iload 4, 2) := by decide +kernel
theorem dX6_unit_44 : decode cX6_unit 44 = .ok (.i2l, 1) := by decide +kernel
theorem dX6_unit_45 : decode cX6_unit 45 = .ok (.lconst 0, 1) := by decide +kernel
theorem dX6_unit_46 : decode cX6_unit 46 = .ok (.iconst 3, 1) := by decide +kernel
theorem dX6_unit_47 : decode cX6_unit 47 = .ok (.invokestatic 46, 3) := by decide +kernel
theorem dX6_unit_50 : decode cX6_unit 50 = .ok (.i2l, 1) := by decide +kernel
theorem dX6_unit_51 : decode cX6_unit 51 = .ok (.invokestatic 42, 3) := by decide +kernel
theorem dX6_unit_54 : decode cX6_unit 54 = .ok (.ifCond .eq 18, 3) := by decide +kernel
theorem dX6_unit_57 : decode cX6_unit 57 = .ok (.iload 5, 2) := by decide +kernel
theorem dX6_unit_59 : decode cX6_unit 59 = .ok (.i2l, 1) := by decide +kernel
theorem dX6_unit_60 : decode cX6_unit 60 = .ok (.lconst 0, 1) := by decide +kernel
theorem dX6_unit_61 : decode cX6_unit 61 = .ok (.iconst 4, 1) := by decide +kernel
theorem dX6_unit_62 : decode cX6_unit 62 = .ok (.invokestatic 46, 3) := by decide +kernel
theorem dX6_unit_65 : decode cX6_unit 65 = .ok (.i2l, 1) := by decide +kernel
theorem dX6_unit_66 : decode cX6_unit 66 = .ok (.invokestatic 42, 3) := by decide +kernel
theorem dX6_unit_69 : decode cX6_unit 69 = .ok (.ifCond .ne 10, 3) := by decide +kernel
theorem dX6_unit_72 : decode cX6_unit 72 = .ok (.aload_n 0, 1) := by decide +kernel
theorem dX6_unit_73 : decode cX6_unit 73 = .ok (.bipush (-2), 2) := by decide +kernel
theorem dX6_unit_75 : decode cX6_unit 75 = .ok (.invokevirtual 50, 3) := by decide +kernel
theorem dX6_unit_78 : decode cX6_unit 78 = .ok (.ireturn, 1) := by decide +kernel
theorem dX6_unit_79 : decode cX6_unit 79 = .ok (.aload_n 0, 1) := by decide +kernel
theorem dX6_unit_80 : decode cX6_unit 80 = .ok (.getfield 38, 3) := by decide +kernel
theorem dX6_unit_83 : decode cX6_unit 83 = .ok (.bipush 12, 2) := by decide +kernel
theorem dX6_unit_85 : decode cX6_unit 85 = .ok (.if_icmp .ne 8, 3) := by decide +kernel
theorem dX6_unit_88 : decode cX6_unit 88 = .ok (.aload_n 0, 1) := by decide +kernel
theorem dX6_unit_89 : decode cX6_unit 89 = .ok (.invokevirtual 53, 3) := by decide +kernel
theorem dX6_unit_92 : decode cX6_unit 92 = .ok (.ireturn, 1) := by decide +kernel
theorem dX6_unit_93 : decode cX6_unit 93 = .ok (.aload_n 0, 1) := by decide +kernel
theorem dX6_unit_94 : decode cX6_unit 94 = .ok (.iload_n 1, 1) := by decide +kernel
theorem dX6_unit_95 : decode cX6_unit 95 = .ok (.iload_n 2, 1) := by decide +kernel
theorem dX6_unit_96 : decode cX6_unit 96 = .ok (.iload_n 3, 1) := by decide +kernel
theorem dX6_unit_97 : decode cX6_unit 97 = .ok (.iload 4, 2) := by decide +kernel
theorem dX6_unit_99 : decode cX6_unit 99 = .ok (.iload 5, 2) := by decide +kernel
theorem dX6_unit_101 : decode cX6_unit 101 = .ok (.invokevirtual 57, 3) := by decide +kernel
theorem dX6_unit_104 : decode cX6_unit 104 = .ok (.aload_n 0, 1) := by decide +kernel
theorem dX6_unit_105 : decode cX6_unit 105 = .ok (.getfield 38, 3) := by decide +kernel
theorem dX6_unit_108 : decode cX6_unit 108 = .ok (.iconst 1, 1) := by decide +kernel
theorem dX6_unit_109 : decode cX6_unit 109 = .ok (.isub, 1) := by decide +kernel
theorem dX6_unit_110 : decode cX6_unit 110 = .ok (.ireturn, 1) := by decide +kernel
theorem dX6_becomes_0 : decode cX6_becomes 0 = .ok (.aload_n 0, 1) := by decide +kernel
theorem dX6_becomes_1 : decode cX6_becomes 1 = .ok (.iload_n 1, 1) := by decide +kernel
theorem dX6_becomes_2 : decode cX6_becomes 2 = .ok (.iload_n 2, 1) := by decide +kernel
theorem dX6_becomes_3 : decode cX6_becomes 3 = .ok (.invokevirtual 61, 3) := by decide +kernel
theorem dX6_becomes_6 : decode cX6_becomes 6 = .ok (.istore 4, 2) := by decide +kernel
theorem dX6_becomes_8 : decode cX6_becomes 8 = .ok (.aload_n 0, 1) := by decide +kernel
theorem dX6_becomes_9 : decode cX6_becomes 9 = .ok (.getfield 7, 3) := by decide +kernel
theorem dX6_becomes_12 : decode cX6_becomes 12 = .ok (.iconst 5, 1) := by decide +kernel
theorem dX6_becomes_13 : decode cX6_becomes 13 = .ok (.iload_n 1, 1) := by decide +kernel
theorem dX6_becomes_14 : decode cX6_becomes 14 = .ok (.imul, 1) := by decide +kernel
theorem dX6_becomes_15 : decode cX6_becomes 15 = .ok (.iload_n 2, 1) := by decide +kernel
theorem dX6_becomes_16 : decode cX6_becomes 16 = .ok (.iadd, 1) := by decide +kernel
theorem dX6_becomes_17 : decode cX6_becomes 17 = .ok (.iload_n 3, 1) := by decide +kernel
theorem dX6_becomes_18 : decode cX6_becomes 18 = .ok (.iastore, 1) := by decide +kernel
theorem dX6_becomes_19 : decode cX6_becomes 19 = .ok (.iload 4, 2) := by decide +kernel
theorem dX6_becomes_21 : decode cX6_becomes 21 = .ok (.ireturn, 1) := by decide +kernel
theorem dX6_sets_0 : decode cX6_sets 0 = .ok (.aload_n 0, 1) := by decide +kernel
theorem dX6_sets_1 : decode cX6_sets 1 = .ok (.iload_n 1, 1) := by decide +kernel
theorem dX6_sets_2 : decode cX6_sets 2 = .ok (.invokevirtual 65, 3) := by decide +kernel
theorem dX6_sets_5 : decode cX6_sets 5 = .ok (.ifCond .eq 29, 3) := by decide +kernel
theorem dX6_sets_8 : decode cX6_sets 8 = .ok (.iload_n 2, 1) := by decide +kernel
theorem dX6_sets_9 : decode cX6_sets 9 = .ok (.i2l, 1) := by decide +kernel
theorem dX6_sets_10 : decode cX6_sets 10 = .ok (.lconst 0, 1) := by decide +kernel
theorem dX6_sets_11 : decode cX6_sets 11 = .ok (.ldc2_w 69, 3) := by decide +kernel
theorem dX6_sets_14 : decode cX6_sets 14 = .ok (.invokestatic 42, 3) := by decide +kernel
theorem dX6_sets_17 : decode cX6_sets 17 = .ok (.ifCond .eq 17, 3) := by decide +kernel
theorem dX6_sets_20 : decode cX6_sets 20 = .ok (.iload_n 3, 1) := by decide +kernel
theorem dX6_sets_21 : decode cX6_sets 21 = .ok (.i2l, 1) := by decide +kernel
theorem dX6_sets_22 : decode cX6_sets 22 = .ok (.lconst 0, 1) := by decide +kernel
theorem dX6_sets_23 : decode cX6_sets 23 = .ok (.iload_n 2, 1) := by decide +kernel
theorem dX6_sets_24 : decode cX6_sets 24 = .ok (.invokestatic 46, 3) := by decide +kernel
theorem dX6_sets_27 : decode cX6_sets 27 = .ok (.i2l, 1) := by decide +kernel
theorem dX6_sets_28 : decode cX6_sets 28 = .ok (.invokestatic 42, 3) := by decide +kernel
theorem dX6_sets_31 : decode cX6_sets 31 = .ok (.ifCond .ne 10, 3) := by decide +kernel
theorem dX6_sets_34 : decode cX6_sets 34 = .ok (.aload_n 0, 1) := by decide +kernel
theorem dX6_sets_35 : decode cX6_sets 35 = .ok (.bipush (-2), 2) := by decide +kernel
theorem dX6_sets_37 : decode cX6_sets 37 = .ok (.invokevirtual 50, 3) := by decide +kernel
theorem dX6_sets_40 : decode cX6_sets 40 = .ok (.ireturn, 1) := by decide +kernel
theorem dX6_sets_41 : decode cX6_sets 41 = .ok (.aload_n 0, 1) := by decide +kernel
theorem dX6_sets_42 : decode cX6_sets 42 = .ok (.iload_n 1, 1) := by decide +kernel
theorem dX6_sets_43 : decode cX6_sets 43 = .ok (.iload_n 2, 1) := by decide +kernel
theorem dX6_sets_44 : decode cX6_sets 44 = .ok (.iload_n 3, 1) := by decide +kernel
theorem dX6_sets_45 : decode cX6_sets 45 = .ok (.invokevirtual 71, 3) := by decide +kernel
theorem dX6_sets_48 : decode cX6_sets 48 = .ok (.ireturn, 1) := by decide +kernel
theorem dX6_goesEmpty_0 : decode cX6_goesEmpty 0 = .ok (.aload_n 0, 1) := by decide +kernel
theorem dX6_goesEmpty_1 : decode cX6_goesEmpty 1 = .ok (.iconst 0, 1) := by decide +kernel
theorem dX6_goesEmpty_2 : decode cX6_goesEmpty 2 = .ok (.putfield 38, 3) := by decide +kernel
theorem dX6_goesEmpty_5 : decode cX6_goesEmpty 5 = .ok (.aload_n 0, 1) := by decide +kernel
theorem dX6_goesEmpty_6 : decode cX6_goesEmpty 6 = .ok (.iconst 0, 1) := by decide +kernel
theorem dX6_goesEmpty_7 : decode cX6_goesEmpty 7 = .ok (.putfield 75, 3) := by decide +kernel
theorem dX6_goesEmpty_10 : decode cX6_goesEmpty 10 = .ok (.aload_n 0, 1) := by decide +kernel
theorem dX6_goesEmpty_11 : decode cX6_goesEmpty 11 = .ok (.iconst 0, 1) := by decide +kernel
theorem dX6_goesEmpty_12 : decode cX6_goesEmpty 12 = .ok (.putfield 78, 3) := by decide +kernel
theorem dX6_goesEmpty_15 : decode cX6_goesEmpty 15 = .ok (.aload_n 0, 1) := by decide +kernel
theorem dX6_goesEmpty_16 : decode cX6_goesEmpty 16 = .ok (.iconst 0, 1) := by decide +kernel
theorem dX6_goesEmpty_17 : decode cX6_goesEmpty 17 = .ok (.putfield 81, 3) := by decide +kernel
theorem dX6_goesEmpty_20 : decode cX6_goesEmpty 20 = .ok (.aload_n 0, 1) := by decide +kernel
theorem dX6_goesEmpty_21 : decode cX6_goesEmpty 21 = .ok (.iconst 0, 1) := by decide +kernel
theorem dX6_goesEmpty_22 : decode cX6_goesEmpty 22 = .ok (.putfield 84, 3) := by decide +kernel
theorem dX6_goesEmpty_25 : decode cX6_goesEmpty 25 = .ok (.return_, 1) := by decide +kernel
theorem dX6_empties_0 : decode cX6_empties 0 = .ok (.aload_n 0, 1) := by decide +kernel
theorem dX6_empties_1 : decode cX6_empties 1 = .ok (.getfield 38, 3) := by decide +kernel
theorem dX6_empties_4 : decode cX6_empties 4 = .ok (.istore_n 1, 1) := by decide +kernel
theorem dX6_empties_5 : decode cX6_empties 5 = .ok (.aload_n 0, 1) := by decide +kernel
theorem dX6_empties_6 : decode cX6_empties 6 = .ok (.invokevirtual 87, 3) := by decide +kernel
theorem dX6_empties_9 : decode cX6_empties 9 = .ok (.iload_n 1, 1) := by decide +kernel
theorem dX6_empties_10 : decode cX6_empties 10 = .ok (.ireturn, 1) := by decide +kernel
theorem dX6_next_0 : decode cX6_next 0 = .ok (.lload_n 0, 1) := by decide +kernel
theorem dX6_next_1 : decode cX6_next 1 = .ok (.ldc2_w 90, 3) := by decide +kernel
theorem dX6_next_4 : decode cX6_next 4 = .ok (.lmul, 1) := by decide +kernel
theorem dX6_next_5 : decode cX6_next 5 = .ok (.ldc2_w 92, 3) := by decide +kernel
theorem dX6_next_8 : decode cX6_next 8 = .ok (.ladd, 1) := by decide +kernel
theorem dX6_next_9 : decode cX6_next 9 = .ok (.ldc2_w 94, 3) := by decide +kernel
theorem dX6_next_12 : decode cX6_next 12 = .ok (.lrem, 1) := by decide +kernel
theorem dX6_next_13 : decode cX6_next 13 = .ok (.lreturn, 1) := by decide +kernel
theorem dX6_draw_0 : decode cX6_draw 0 = .ok (.iload_n 1, 1) := by decide +kernel
theorem dX6_draw_1 : decode cX6_draw 1 = .ok (.i2l, 1) := by decide +kernel
theorem dX6_draw_2 : decode cX6_draw 2 = .ok (.lconst 0, 1) := by decide +kernel
theorem dX6_draw_3 : decode cX6_draw 3 = .ok (.ldc2_w 96, 3) := by decide +kernel
theorem dX6_draw_6 : decode cX6_draw 6 = .ok (.invokestatic 42, 3) := by decide +kernel
theorem dX6_draw_9 : decode cX6_draw 9 = .ok (.ifCond .eq 15, 3) := by decide +kernel
theorem dX6_draw_12 : decode cX6_draw 12 = .ok (.iload_n 2, 1) := by decide +kernel
theorem dX6_draw_13 : decode cX6_draw 13 = .ok (.i2l, 1) := by decide +kernel
theorem dX6_draw_14 : decode cX6_draw 14 = .ok (.lconst 0, 1) := by decide +kernel
theorem dX6_draw_15 : decode cX6_draw 15 = .ok (.ldc2_w 98, 3) := by decide +kernel
theorem dX6_draw_18 : decode cX6_draw 18 = .ok (.invokestatic 42, 3) := by decide +kernel
theorem dX6_draw_21 : decode cX6_draw 21 = .ok (.ifCond .ne 10, 3) := by decide +kernel
theorem dX6_draw_24 : decode cX6_draw 24 = .ok (.aload_n 0, 1) := by decide +kernel
theorem dX6_draw_25 : decode cX6_draw 25 = .ok (.bipush (-2), 2) := by decide +kernel
theorem dX6_draw_27 : decode cX6_draw 27 = .ok (.invokevirtual 50, 3) := by decide +kernel
theorem dX6_draw_30 : decode cX6_draw 30 = .ok (.ireturn, 1) := by decide +kernel
theorem dX6_draw_31 : decode cX6_draw 31 = .ok (.iload_n 1, 1) := by decide +kernel
theorem dX6_draw_32 : decode cX6_draw 32 = .ok (.i2l, 1) := by decide +kernel
theorem dX6_draw_33 : decode cX6_draw 33 = .ok (.lstore_n 3, 1) := by decide +kernel
theorem dX6_draw_34 : decode cX6_draw 34 = .ok (.iconst 0, 1) := by decide +kernel
theorem dX6_draw_35 : decode cX6_draw 35 = .ok (.istore 5, 2) := by decide +kernel
theorem dX6_draw_37 : decode cX6_draw 37 = .ok (.aload_n 0, 1) := by decide +kernel
theorem dX6_draw_38 : decode cX6_draw 38 = .ok (.invokevirtual 87, 3) := by decide +kernel
theorem dX6_draw_41 : decode cX6_draw 41 = .ok (.iconst 0, 1) := by decide +kernel
theorem dX6_draw_42 : decode cX6_draw 42 = .ok (.istore 6, 2) := by decide +kernel
theorem dX6_draw_44 : decode cX6_draw 44 = .ok (.iload 6, 2) := by decide +kernel
theorem dX6_draw_46 : decode cX6_draw 46 = .ok (.iload_n 2, 1) := by decide +kernel
theorem dX6_draw_47 : decode cX6_draw 47 = .ok (.if_icmp .ge 80, 3) := by decide +kernel
theorem dX6_draw_50 : decode cX6_draw 50 = .ok (.lload_n 3, 1) := by decide +kernel
theorem dX6_draw_51 : decode cX6_draw 51 = .ok (.invokestatic 100, 3) := by decide +kernel
theorem dX6_draw_54 : decode cX6_draw 54 = .ok (.lstore_n 3, 1) := by decide +kernel
theorem dX6_draw_55 : decode cX6_draw 55 = .ok (.aload_n 0, 1) := by decide +kernel
theorem dX6_draw_56 : decode cX6_draw 56 = .ok (.lload_n 3, 1) := by decide +kernel
theorem dX6_draw_57 : decode cX6_draw 57 = .ok (.ldc2_w 104, 3) := by decide +kernel
theorem dX6_draw_60 : decode cX6_draw 60 = .ok (.ldiv, 1) := by decide +kernel
theorem dX6_draw_61 : decode cX6_draw 61 = .ok (.ldc2_w 106, 3) := by decide +kernel
theorem dX6_draw_64 : decode cX6_draw 64 = .ok (.lrem, 1) := by decide +kernel
theorem dX6_draw_65 : decode cX6_draw 65 = .ok (.l2i, 1) := by decide +kernel
theorem dX6_draw_66 : decode cX6_draw 66 = .ok (.lload_n 3, 1) := by decide +kernel
theorem dX6_draw_67 : decode cX6_draw 67 = .ok (.ldc2_w 108, 3) := by decide +kernel
theorem dX6_draw_70 : decode cX6_draw 70 = .ok (.ldiv, 1) := by decide +kernel
theorem dX6_draw_71 : decode cX6_draw 71 = .ok (.ldc2_w 110, 3) := by decide +kernel
theorem dX6_draw_74 : decode cX6_draw 74 = .ok (.lrem, 1) := by decide +kernel
theorem dX6_draw_75 : decode cX6_draw 75 = .ok (.l2i, 1) := by decide +kernel
theorem dX6_draw_76 : decode cX6_draw 76 = .ok (.lload_n 3, 1) := by decide +kernel
theorem dX6_draw_77 : decode cX6_draw 77 = .ok (.ldc2_w 112, 3) := by decide +kernel
theorem dX6_draw_80 : decode cX6_draw 80 = .ok (.ldiv, 1) := by decide +kernel
theorem dX6_draw_81 : decode cX6_draw 81 = .ok (.ldc2_w 69, 3) := by decide +kernel
theorem dX6_draw_84 : decode cX6_draw 84 = .ok (.lrem, 1) := by decide +kernel
theorem dX6_draw_85 : decode cX6_draw 85 = .ok (.l2i, 1) := by decide +kernel
theorem dX6_draw_86 : decode cX6_draw 86 = .ok (.lload_n 3, 1) := by decide +kernel
theorem dX6_draw_87 : decode cX6_draw 87 = .ok (.ldc2_w 114, 3) := by decide +kernel
theorem dX6_draw_90 : decode cX6_draw 90 = .ok (.ldiv, 1) := by decide +kernel
theorem dX6_draw_91 : decode cX6_draw 91 = .ok (.ldc2_w 110, 3) := by decide +kernel
theorem dX6_draw_94 : decode cX6_draw 94 = .ok (.lrem, 1) := by decide +kernel
theorem dX6_draw_95 : decode cX6_draw 95 = .ok (.l2i, 1) := by decide +kernel
theorem dX6_draw_96 : decode cX6_draw 96 = .ok (.lload_n 3, 1) := by decide +kernel
theorem dX6_draw_97 : decode cX6_draw 97 = .ok (.ldc2_w 116, 3) := by decide +kernel
theorem dX6_draw_100 : decode cX6_draw 100 = .ok (.ldiv, 1) := by decide +kernel
theorem dX6_draw_101 : decode cX6_draw 101 = .ok (.ldc2_w 110, 3) := by decide +kernel
theorem dX6_draw_104 : decode cX6_draw 104 = .ok (.lrem, 1) := by decide +kernel
theorem dX6_draw_105 : decode cX6_draw 105 = .ok (.l2i, 1) := by decide +kernel
theorem dX6_draw_106 : decode cX6_draw 106 = .ok (.invokevirtual 57, 3) := by decide +kernel
theorem dX6_draw_109 : decode cX6_draw 109 = .ok (.iload 5, 2) := by decide +kernel
theorem dX6_draw_111 : decode cX6_draw 111 = .ok (.aload_n 0, 1) := by decide +kernel
theorem dX6_draw_112 : decode cX6_draw 112 = .ok (.iload 6, 2) := by decide +kernel
theorem dX6_draw_114 : decode cX6_draw 114 = .ok (.iconst 0, 1) := by decide +kernel
theorem dX6_draw_115 : decode cX6_draw 115 = .ok (.invokevirtual 61, 3) := by decide +kernel
theorem dX6_draw_118 : decode cX6_draw 118 = .ok (.iadd, 1) := by decide +kernel
theorem dX6_draw_119 : decode cX6_draw 119 = .ok (.istore 5, 2) := by decide +kernel
theorem dX6_draw_121 : decode cX6_draw 121 = .ok (.iinc 6 1, 3) := by decide +kernel
theorem dX6_draw_124 : decode cX6_draw 124 = .ok (.goto (-80), 3) := by decide +kernel
theorem dX6_draw_127 : decode cX6_draw 127 = .ok (.iload 5, 2) := by decide +kernel
theorem dX6_draw_129 : decode cX6_draw 129 = .ok (.ireturn, 1) := by decide +kernel
theorem dX6_of_0 : decode cX6_of 0 = .ok (.aload_n 0, 1) := by decide +kernel
theorem dX6_of_1 : decode cX6_of 1 = .ok (.iload_n 1, 1) := by decide +kernel
theorem dX6_of_2 : decode cX6_of 2 = .ok (.invokevirtual 65, 3) := by decide +kernel
theorem dX6_of_5 : decode cX6_of 5 = .ok (.ifCond .eq 15, 3) := by decide +kernel
theorem dX6_of_8 : decode cX6_of 8 = .ok (.iload_n 2, 1) := by decide +kernel
theorem dX6_of_9 : decode cX6_of 9 = .ok (.i2l, 1) := by decide +kernel
theorem dX6_of_10 : decode cX6_of 10 = .ok (.lconst 0, 1) := by decide +kernel
theorem dX6_of_11 : decode cX6_of 11 = .ok (.ldc2_w 118, 3) := by decide +kernel
theorem dX6_of_14 : decode cX6_of 14 = .ok (.invokestatic 42, 3) := by decide +kernel
theorem dX6_of_17 : decode cX6_of 17 = .ok (.ifCond .ne 10, 3) := by decide +kernel
theorem dX6_of_20 : decode cX6_of 20 = .ok (.aload_n 0, 1) := by decide +kernel
theorem dX6_of_21 : decode cX6_of 21 = .ok (.bipush (-2), 2) := by decide +kernel
theorem dX6_of_23 : decode cX6_of 23 = .ok (.invokevirtual 50, 3) := by decide +kernel
theorem dX6_of_26 : decode cX6_of 26 = .ok (.ireturn, 1) := by decide +kernel
theorem dX6_of_27 : decode cX6_of 27 = .ok (.iload_n 2, 1) := by decide +kernel
theorem dX6_of_28 : decode cX6_of 28 = .ok (.iconst 5, 1) := by decide +kernel
theorem dX6_of_29 : decode cX6_of 29 = .ok (.if_icmp .ge 12, 3) := by decide +kernel
theorem dX6_of_32 : decode cX6_of 32 = .ok (.aload_n 0, 1) := by decide +kernel
theorem dX6_of_33 : decode cX6_of 33 = .ok (.iload_n 1, 1) := by decide +kernel
theorem dX6_of_34 : decode cX6_of 34 = .ok (.iload_n 2, 1) := by decide +kernel
theorem dX6_of_35 : decode cX6_of 35 = .ok (.invokevirtual 61, 3) := by decide +kernel
theorem dX6_of_38 : decode cX6_of 38 = .ok (.goto 19, 3) := by decide +kernel
theorem dX6_of_41 : decode cX6_of 41 = .ok (.aload_n 0, 1) := by decide +kernel
theorem dX6_of_42 : decode cX6_of 42 = .ok (.getfield 75, 3) := by decide +kernel
theorem dX6_of_45 : decode cX6_of 45 = .ok (.iload_n 1, 1) := by decide +kernel
theorem dX6_of_46 : decode cX6_of 46 = .ok (.invokestatic 120, 3) := by decide +kernel
theorem dX6_of_49 : decode cX6_of 49 = .ok (.ifCond .eq 7, 3) := by decide +kernel
theorem dX6_of_52 : decode cX6_of 52 = .ok (.iconst 1, 1) := by decide +kernel
theorem dX6_of_53 : decode cX6_of 53 = .ok (.goto 4, 3) := by decide +kernel
theorem dX6_of_56 : decode cX6_of 56 = .ok (.iconst 0, 1) := by decide +kernel
theorem dX6_of_57 : decode cX6_of 57 = .ok (.ireturn, 1) := by decide +kernel
theorem dX6_sumOf_0 : decode cX6_sumOf 0 = .ok (.iconst 0, 1) := by decide +kernel
theorem dX6_sumOf_1 : decode cX6_sumOf 1 = .ok (.istore_n 2, 1) := by decide +kernel
theorem dX6_sumOf_2 : decode cX6_sumOf 2 = .ok (.iconst 0, 1) := by decide +kernel
theorem dX6_sumOf_3 : decode cX6_sumOf 3 = .ok (.istore_n 3, 1) := by decide +kernel
theorem dX6_sumOf_4 : decode cX6_sumOf 4 = .ok (.iload_n 3, 1) := by decide +kernel
theorem dX6_sumOf_5 : decode cX6_sumOf 5 = .ok (.aload_n 0, 1) := by decide +kernel
theorem dX6_sumOf_6 : decode cX6_sumOf 6 = .ok (.getfield 38, 3) := by decide +kernel
theorem dX6_sumOf_9 : decode cX6_sumOf 9 = .ok (.if_icmp .ge 31, 3) := by decide +kernel
theorem dX6_sumOf_12 : decode cX6_sumOf 12 = .ok (.iload_n 2, 1) := by decide +kernel
theorem dX6_sumOf_13 : decode cX6_sumOf 13 = .ok (.aload_n 0, 1) := by decide +kernel
theorem dX6_sumOf_14 : decode cX6_sumOf 14 = .ok (.iload_n 3, 1) := by decide +kernel
theorem dX6_sumOf_15 : decode cX6_sumOf 15 = .ok (.iconst 0, 1) := by decide +kernel
theorem dX6_sumOf_16 : decode cX6_sumOf 16 = .ok (.invokevirtual 61, 3) := by decide +kernel
theorem dX6_sumOf_19 : decode cX6_sumOf 19 = .ok (.ifCond .le 12, 3) := by decide +kernel
theorem dX6_sumOf_22 : decode cX6_sumOf 22 = .ok (.aload_n 0, 1) := by decide +kernel
theorem dX6_sumOf_23 : decode cX6_sumOf 23 = .ok (.iload_n 3, 1) := by decide +kernel
theorem dX6_sumOf_24 : decode cX6_sumOf 24 = .ok (.iload_n 1, 1) := by decide +kernel
theorem dX6_sumOf_25 : decode cX6_sumOf 25 = .ok (.invokevirtual 61, 3) := by decide +kernel
theorem dX6_sumOf_28 : decode cX6_sumOf 28 = .ok (.goto 4, 3) := by decide +kernel
theorem dX6_sumOf_31 : decode cX6_sumOf 31 = .ok (.iconst 0, 1) := by decide +kernel
theorem dX6_sumOf_32 : decode cX6_sumOf 32 = .ok (.iadd, 1) := by decide +kernel
theorem dX6_sumOf_33 : decode cX6_sumOf 33 = .ok (.istore_n 2, 1) := by decide +kernel
theorem dX6_sumOf_34 : decode cX6_sumOf 34 = .ok (.iinc 3 1, 3) := by decide +kernel
theorem dX6_sumOf_37 : decode cX6_sumOf 37 = .ok (.goto (-33), 3) := by decide +kernel
theorem dX6_sumOf_40 : decode cX6_sumOf 40 = .ok (.iload_n 2, 1) := by decide +kernel
theorem dX6_sumOf_41 : decode cX6_sumOf 41 = .ok (.ireturn, 1) := by decide +kernel
theorem dX6_opens_0 : decode cX6_opens 0 = .ok (.iconst 0, 1) := by decide +kernel
theorem dX6_opens_1 : decode cX6_opens 1 = .ok (.istore_n 1, 1) := by decide +kernel
theorem dX6_opens_2 : decode cX6_opens 2 = .ok (.iconst 0, 1) := by decide +kernel
theorem dX6_opens_3 : decode cX6_opens 3 = .ok (.istore_n 2, 1) := by decide +kernel
theorem dX6_opens_4 : decode cX6_opens 4 = .ok (.iload_n 2, 1) := by decide +kernel
theorem dX6_opens_5 : decode cX6_opens 5 = .ok (.aload_n 0, 1) := by decide +kernel
theorem dX6_opens_6 : decode cX6_opens 6 = .ok (.getfield 38, 3) := by decide +kernel
theorem dX6_opens_9 : decode cX6_opens 9 = .ok (.if_icmp .ge 34, 3) := by decide +kernel
theorem dX6_opens_12 : decode cX6_opens 12 = .ok (.iload_n 1, 1) := by decide +kernel
theorem dX6_opens_13 : decode cX6_opens 13 = .ok (.aload_n 0, 1) := by decide +kernel
theorem dX6_opens_14 : decode cX6_opens 14 = .ok (.iload_n 2, 1) := by decide +kernel
theorem dX6_opens_15 : decode cX6_opens 15 = .ok (.iconst 0, 1) := by decide +kernel
theorem dX6_opens_16 : decode cX6_opens 16 = .ok (.invokevirtual 61, 3) := by decide +kernel
theorem dX6_opens_19 : decode cX6_opens 19 = .ok (.i2l, 1) := by decide +kernel
theorem dX6_opens_20 : decode cX6_opens 20 = .ok (.lconst 1, 1) := by decide +kernel
theorem dX6_opens_21 : decode cX6_opens 21 = .ok (.ldc2_w 124, 3) := by decide +kernel
theorem dX6_opens_24 : decode cX6_opens 24 = .ok (.invokestatic 42, 3) := by decide +kernel
theorem dX6_opens_27 : decode cX6_opens 27 = .ok (.ifCond .eq 7, 3) := by decide +kernel
theorem dX6_opens_30 : decode cX6_opens 30 = .ok (.iconst 1, 1) := by decide +kernel
theorem dX6_opens_31 : decode cX6_opens 31 = .ok (.goto 4, 3) := by decide +kernel
theorem dX6_opens_34 : decode cX6_opens 34 = .ok (.iconst 0, 1) := by decide +kernel
theorem dX6_opens_35 : decode cX6_opens 35 = .ok (.iadd, 1) := by decide +kernel
theorem dX6_opens_36 : decode cX6_opens 36 = .ok (.istore_n 1, 1) := by decide +kernel
theorem dX6_opens_37 : decode cX6_opens 37 = .ok (.iinc 2 1, 3) := by decide +kernel
theorem dX6_opens_40 : decode cX6_opens 40 = .ok (.goto (-36), 3) := by decide +kernel
theorem dX6_opens_43 : decode cX6_opens 43 = .ok (.iload_n 1, 1) := by decide +kernel
theorem dX6_opens_44 : decode cX6_opens 44 = .ok (.ireturn, 1) := by decide +kernel
theorem dX6_all_0 : decode cX6_all 0 = .ok (.iload_n 1, 1) := by decide +kernel
theorem dX6_all_1 : decode cX6_all 1 = .ok (.i2l, 1) := by decide +kernel
theorem dX6_all_2 : decode cX6_all 2 = .ok (.lconst 0, 1) := by decide +kernel
theorem dX6_all_3 : decode cX6_all 3 = .ok (.ldc2_w 126, 3) := by decide +kernel
theorem dX6_all_6 : decode cX6_all 6 = .ok (.invokestatic 42, 3) := by decide +kernel
theorem dX6_all_9 : decode cX6_all 9 = .ok (.ifCond .ne 10, 3) := by decide +kernel
theorem dX6_all_12 : decode cX6_all 12 = .ok (.aload_n 0, 1) := by decide +kernel
theorem dX6_all_13 : decode cX6_all 13 = .ok (.bipush (-2), 2) := by decide +kernel
theorem dX6_all_15 : decode cX6_all 15 = .ok (.invokevirtual 50, 3) := by decide +kernel
theorem dX6_all_18 : decode cX6_all 18 = .ok (.ireturn, 1) := by decide +kernel
theorem dX6_all_19 : decode cX6_all 19 = .ok (.iload_n 1, 1) := by decide +kernel
theorem dX6_all_20 : decode cX6_all 20 = .ok (.ifCond .ne 11, 3) := by decide +kernel
theorem dX6_all_23 : decode cX6_all 23 = .ok (.aload_n 0, 1) := by decide +kernel
theorem dX6_all_24 : decode cX6_all 24 = .ok (.iconst 0, 1) := by decide +kernel
theorem dX6_all_25 : decode cX6_all 25 = .ok (.invokevirtual 128, 3) := by decide +kernel
theorem dX6_all_28 : decode cX6_all 28 = .ok (.goto 33, 3) := by decide +kernel
theorem dX6_all_31 : decode cX6_all 31 = .ok (.iload_n 1, 1) := by decide +kernel
theorem dX6_all_32 : decode cX6_all 32 = .ok (.iconst 1, 1) := by decide +kernel
theorem dX6_all_33 : decode cX6_all 33 = .ok (.if_icmp .ne 11, 3) := by decide +kernel
theorem dX6_all_36 : decode cX6_all 36 = .ok (.aload_n 0, 1) := by decide +kernel
theorem dX6_all_37 : decode cX6_all 37 = .ok (.iconst 3, 1) := by decide +kernel
theorem dX6_all_38 : decode cX6_all 38 = .ok (.invokevirtual 128, 3) := by decide +kernel
theorem dX6_all_41 : decode cX6_all 41 = .ok (.goto 20, 3) := by decide +kernel
theorem dX6_all_44 : decode cX6_all 44 = .ok (.iload_n 1, 1) := by decide +kernel
theorem dX6_all_45 : decode cX6_all 45 = .ok (.iconst 2, 1) := by decide +kernel
theorem dX6_all_46 : decode cX6_all 46 = .ok (.if_icmp .ne 11, 3) := by decide +kernel
theorem dX6_all_49 : decode cX6_all 49 = .ok (.aload_n 0, 1) := by decide +kernel
theorem dX6_all_50 : decode cX6_all 50 = .ok (.iconst 4, 1) := by decide +kernel
theorem dX6_all_51 : decode cX6_all 51 = .ok (.invokevirtual 128, 3) := by decide +kernel
theorem dX6_all_54 : decode cX6_all 54 = .ok (.goto 7, 3) := by decide +kernel
theorem dX6_all_57 : decode cX6_all 57 = .ok (.aload_n 0, 1) := by decide +kernel
theorem dX6_all_58 : decode cX6_all 58 = .ok (.invokevirtual 131, 3) := by decide +kernel
theorem dX6_all_61 : decode cX6_all 61 = .ok (.ireturn, 1) := by decide +kernel
theorem dX6_method_0 : decode cX6_method 0 = .ok (.iload_n 1, 1) := by decide +kernel
theorem dX6_method_1 : decode cX6_method 1 = .ok (.i2l, 1) := by decide +kernel
theorem dX6_method_2 : decode cX6_method 2 = .ok (.lconst 0, 1) := by decide +kernel
theorem dX6_method_3 : decode cX6_method 3 = .ok (.ldc2_w 69, 3) := by decide +kernel
theorem dX6_method_6 : decode cX6_method 6 = .ok (.invokestatic 42, 3) := by decide +kernel
theorem dX6_method_9 : decode cX6_method 9 = .ok (.ifCond .ne 10, 3) := by decide +kernel
theorem dX6_method_12 : decode cX6_method 12 = .ok (.aload_n 0, 1) := by decide +kernel
theorem dX6_method_13 : decode cX6_method 13 = .ok (.bipush (-2), 2) := by decide +kernel
theorem dX6_method_15 : decode cX6_method 15 = .ok (.invokevirtual 50, 3) := by decide +kernel
theorem dX6_method_18 : decode cX6_method 18 = .ok (.ireturn, 1) := by decide +kernel
theorem dX6_method_19 : decode cX6_method 19 = .ok (.aload_n 0, 1) := by decide +kernel
theorem dX6_method_20 : decode cX6_method 20 = .ok (.getfield 134, 3) := by decide +kernel
theorem dX6_method_23 : decode cX6_method 23 = .ok (.istore_n 2, 1) := by decide +kernel
theorem dX6_method_24 : decode cX6_method 24 = .ok (.aload_n 0, 1) := by decide +kernel
theorem dX6_method_25 : decode cX6_method 25 = .ok (.iload_n 1, 1) := by decide +kernel
theorem dX6_method_26 : decode cX6_method 26 = .ok (.putfield 134, 3) := by decide +kernel
theorem dX6_method_29 : decode cX6_method 29 = .ok (.iload_n 2, 1) := by decide +kernel
theorem dX6_method_30 : decode cX6_method 30 = .ok (.ireturn, 1) := by decide +kernel
theorem dX6_isOpen_0 : decode cX6_isOpen 0 = .ok (.aload_n 0, 1) := by decide +kernel
theorem dX6_isOpen_1 : decode cX6_isOpen 1 = .ok (.getfield 16, 3) := by decide +kernel
theorem dX6_isOpen_4 : decode cX6_isOpen 4 = .ok (.iload_n 1, 1) := by decide +kernel
theorem dX6_isOpen_5 : decode cX6_isOpen 5 = .ok (.iaload, 1) := by decide +kernel
theorem dX6_isOpen_6 : decode cX6_isOpen 6 = .ok (.i2l, 1) := by decide +kernel
theorem dX6_isOpen_7 : decode cX6_isOpen 7 = .ok (.lconst 1, 1) := by decide +kernel
theorem dX6_isOpen_8 : decode cX6_isOpen 8 = .ok (.ldc2_w 124, 3) := by decide +kernel
theorem dX6_isOpen_11 : decode cX6_isOpen 11 = .ok (.invokestatic 42, 3) := by decide +kernel
theorem dX6_isOpen_14 : decode cX6_isOpen 14 = .ok (.ireturn, 1) := by decide +kernel
theorem dX6_firstOpen_0 : decode cX6_firstOpen 0 = .ok (.iload_n 1, 1) := by decide +kernel
theorem dX6_firstOpen_1 : decode cX6_firstOpen 1 = .ok (.istore_n 2, 1) := by decide +kernel
theorem dX6_firstOpen_2 : decode cX6_firstOpen 2 = .ok (.iload_n 2, 1) := by decide +kernel
theorem dX6_firstOpen_3 : decode cX6_firstOpen 3 = .ok (.aload_n 0, 1) := by decide +kernel
theorem dX6_firstOpen_4 : decode cX6_firstOpen 4 = .ok (.getfield 38, 3) := by decide +kernel
theorem dX6_firstOpen_7 : decode cX6_firstOpen 7 = .ok (.if_icmp .ge 17, 3) := by decide +kernel
theorem dX6_firstOpen_10 : decode cX6_firstOpen 10 = .ok (.aload_n 0, 1) := by decide +kernel
theorem dX6_firstOpen_11 : decode cX6_firstOpen 11 = .ok (.iload_n 2, 1) := by decide +kernel
theorem dX6_firstOpen_12 : decode cX6_firstOpen 12 = .ok (.invokevirtual 137, 3) := by decide +kernel
theorem dX6_firstOpen_15 : decode cX6_firstOpen 15 = .ok (.ifCond .ne 9, 3) := by decide +kernel
theorem dX6_firstOpen_18 : decode cX6_firstOpen 18 = .ok (.iinc 2 1, 3) := by decide +kernel
theorem dX6_firstOpen_21 : decode cX6_firstOpen 21 = .ok (.goto (-19), 3) := by decide +kernel
theorem dX6_firstOpen_24 : decode cX6_firstOpen 24 = .ok (.iload_n 2, 1) := by decide +kernel
theorem dX6_firstOpen_25 : decode cX6_firstOpen 25 = .ok (.ireturn, 1) := by decide +kernel
theorem dX6_far_0 : decode cX6_far 0 = .ok (.iload_n 0, 1) := by decide +kernel
theorem dX6_far_1 : decode cX6_far 1 = .ok (.iload_n 1, 1) := by decide +kernel
theorem dX6_far_2 : decode cX6_far 2 = .ok (.if_icmp .le 9, 3) := by decide +kernel
theorem dX6_far_5 : decode cX6_far 5 = .ok (.iload_n 0, 1) := by decide +kernel
theorem dX6_far_6 : decode cX6_far 6 = .ok (.iload_n 1, 1) := by decide +kernel
theorem dX6_far_7 : decode cX6_far 7 = .ok (.isub, 1) := by decide +kernel
theorem dX6_far_8 : decode cX6_far 8 = .ok (.goto 6, 3) := by decide +kernel
theorem dX6_far_11 : decode cX6_far 11 = .ok (.iload_n 1, 1) := by decide +kernel
theorem dX6_far_12 : decode cX6_far 12 = .ok (.iload_n 0, 1) := by decide +kernel
theorem dX6_far_13 : decode cX6_far 13 = .ok (.isub, 1) := by decide +kernel
theorem dX6_far_14 : decode cX6_far 14 = .ok (.ireturn, 1) := by decide +kernel
theorem dX6_bestOf_0 : decode cX6_bestOf 0 = .ok (.iconst (-1), 1) := by decide +kernel
theorem dX6_bestOf_1 : decode cX6_bestOf 1 = .ok (.istore_n 3, 1) := by decide +kernel
theorem dX6_bestOf_2 : decode cX6_bestOf 2 = .ok (.iconst 0, 1) := by decide +kernel
theorem dX6_bestOf_3 : decode cX6_bestOf 3 = .ok (.istore 4, 2) := by decide +kernel
theorem dX6_bestOf_5 : decode cX6_bestOf 5 = .ok (.iconst 0, 1) := by decide +kernel
theorem dX6_bestOf_6 : decode cX6_bestOf 6 = .ok (.istore 5, 2) := by decide +kernel
theorem dX6_bestOf_8 : decode cX6_bestOf 8 = .ok (.iload 5, 2) := by decide +kernel
theorem dX6_bestOf_10 : decode cX6_bestOf 10 = .ok (.aload_n 0, 1) := by decide +kernel
theorem dX6_bestOf_11 : decode cX6_bestOf 11 = .ok (.getfield 38, 3) := by decide +kernel
theorem dX6_bestOf_14 : decode cX6_bestOf 14 = .ok (.if_icmp .ge 100, 3) := by decide +kernel
theorem dX6_bestOf_17 : decode cX6_bestOf 17 = .ok (.iload_n 1, 1) := by decide +kernel
theorem dX6_bestOf_18 : decode cX6_bestOf 18 = .ok (.iconst (-1), 1) := by decide +kernel
theorem dX6_bestOf_19 : decode cX6_bestOf 19 = .ok (.if_icmp .ne 7, 3) := by decide +kernel
theorem dX6_bestOf_22 : decode cX6_bestOf 22 = .ok (.iconst 0, 1) := by decide +kernel
theorem dX6_bestOf_23 : decode cX6_bestOf 23 = .ok (.goto 19, 3) := by decide +kernel
theorem dX6_bestOf_26 : decode cX6_bestOf 26 = .ok (.aload_n 0, 1) := by decide +kernel
theorem dX6_bestOf_27 : decode cX6_bestOf 27 = .ok (.iload 5, 2) := by decide +kernel
theorem dX6_bestOf_29 : decode cX6_bestOf 29 = .ok (.iconst 1, 1) := by decide +kernel
theorem dX6_bestOf_30 : decode cX6_bestOf 30 = .ok (.invokevirtual 61, 3) := by decide +kernel
theorem dX6_bestOf_33 : decode cX6_bestOf 33 = .ok (.aload_n 0, 1) := by decide +kernel
theorem dX6_bestOf_34 : decode cX6_bestOf 34 = .ok (.iload_n 1, 1) := by decide +kernel
theorem dX6_bestOf_35 : decode cX6_bestOf 35 = .ok (.iconst 1, 1) := by decide +kernel
theorem dX6_bestOf_36 : decode cX6_bestOf 36 = .ok (.invokevirtual 61, 3) := by decide +kernel
theorem dX6_bestOf_39 : decode cX6_bestOf 39 = .ok (.invokestatic 140, 3) := by decide +kernel
theorem dX6_bestOf_42 : decode cX6_bestOf 42 = .ok (.istore 6, 2) := by decide +kernel
theorem dX6_bestOf_44 : decode cX6_bestOf 44 = .ok (.iload_n 2, 1) := by decide +kernel
theorem dX6_bestOf_45 : decode cX6_bestOf 45 = .ok (.iconst 1, 1) := by decide +kernel
theorem dX6_bestOf_46 : decode cX6_bestOf 46 = .ok (.if_icmp .ne 9, 3) := by decide +kernel
theorem dX6_bestOf_49 : decode cX6_bestOf 49 = .ok (.iload 6, 2) := by decide +kernel
theorem dX6_bestOf_51 : decode cX6_bestOf 51 = .ok (.ineg, 1) := by decide +kernel
theorem dX6_bestOf_52 : decode cX6_bestOf 52 = .ok (.goto 20, 3) := by decide +kernel
theorem dX6_bestOf_55 : decode cX6_bestOf 55 = .ok (.iload_n 2, 1) := by decide +kernel
theorem dX6_bestOf_56 : decode cX6_bestOf 56 = .ok (.iconst 3, 1) := by decide +kernel
theorem dX6_bestOf_57 : decode cX6_bestOf 57 = .ok (.if_icmp .ne 8, 3) := by decide +kernel
theorem dX6_bestOf_60 : decode cX6_bestOf 60 = .ok (.iload 6, 2) := by decide +kernel
theorem dX6_bestOf_62 : decode cX6_bestOf 62 = .ok (.goto 10, 3) := by decide +kernel
theorem dX6_bestOf_65 : decode cX6_bestOf 65 = .ok (.aload_n 0, 1) := by decide +kernel
theorem dX6_bestOf_66 : decode cX6_bestOf 66 = .ok (.getfield 16, 3) := by decide +kernel
theorem dX6_bestOf_69 : decode cX6_bestOf 69 = .ok (.iload 5, 2) := by decide +kernel
theorem dX6_bestOf_71 : decode cX6_bestOf 71 = .ok (.iaload, 1) := by decide +kernel
theorem dX6_bestOf_72 : decode cX6_bestOf 72 = .ok (.istore 7, 2) := by decide +kernel
theorem dX6_bestOf_74 : decode cX6_bestOf 74 = .ok (.iload 5, 2) := by decide +kernel
theorem dX6_bestOf_76 : decode cX6_bestOf 76 = .ok (.iload_n 1, 1) := by decide +kernel
theorem dX6_bestOf_77 : decode cX6_bestOf 77 = .ok (.if_icmp .eq 31, 3) := by decide +kernel
theorem dX6_bestOf_80 : decode cX6_bestOf 80 = .ok (.aload_n 0, 1) := by decide +kernel
theorem dX6_bestOf_81 : decode cX6_bestOf 81 = .ok (.iload 5, 2) := by decide +kernel
theorem dX6_bestOf_83 : decode cX6_bestOf 83 = .ok (.invokevirtual 137, 3) := by decide +kernel
theorem dX6_bestOf_86 : decode cX6_bestOf 86 = .ok (.ifCond .eq 22, 3) := by decide +kernel
theorem dX6_bestOf_89 : decode cX6_bestOf 89 = .ok (.iload_n 3, 1) := by decide +kernel
theorem dX6_bestOf_90 : decode cX6_bestOf 90 = .ok (.iconst (-1), 1) := by decide +kernel
theorem dX6_bestOf_91 : decode cX6_bestOf 91 = .ok (.if_icmp .eq 10, 3) := by decide +kernel
theorem dX6_bestOf_94 : decode cX6_bestOf 94 = .ok (.iload 7, 2) := by decide +kernel
theorem dX6_bestOf_96 : decode cX6_bestOf 96 = .ok (.iload 4, 2) := by decide +kernel
theorem dX6_bestOf_98 : decode cX6_bestOf 98 = .ok (.if_icmp .le 10, 3) := by decide +kernel
theorem dX6_bestOf_101 : decode cX6_bestOf 101 = .ok (.iload 5, 2) := by decide +kernel
theorem dX6_bestOf_103 : decode cX6_bestOf 103 = .ok (.istore_n 3, 1) := by decide +kernel
theorem dX6_bestOf_104 : decode cX6_bestOf 104 = .ok (.iload 7, 2) := by decide +kernel
theorem dX6_bestOf_106 : decode cX6_bestOf 106 = .ok (.istore 4, 2) := by decide +kernel
theorem dX6_bestOf_108 : decode cX6_bestOf 108 = .ok (.iinc 5 1, 3) := by decide +kernel
theorem dX6_bestOf_111 : decode cX6_bestOf 111 = .ok (.goto (-103), 3) := by decide +kernel
theorem dX6_bestOf_114 : decode cX6_bestOf 114 = .ok (.iload_n 3, 1) := by decide +kernel
theorem dX6_bestOf_115 : decode cX6_bestOf 115 = .ok (.ireturn, 1) := by decide +kernel
theorem dX6_nextIn_0 : decode cX6_nextIn 0 = .ok (.aload_n 0, 1) := by decide +kernel
theorem dX6_nextIn_1 : decode cX6_nextIn 1 = .ok (.iload_n 2, 1) := by decide +kernel
theorem dX6_nextIn_2 : decode cX6_nextIn 2 = .ok (.invokevirtual 143, 3) := by decide +kernel
theorem dX6_nextIn_5 : decode cX6_nextIn 5 = .ok (.istore_n 3, 1) := by decide +kernel
theorem dX6_nextIn_6 : decode cX6_nextIn 6 = .ok (.iload_n 3, 1) := by decide +kernel
theorem dX6_nextIn_7 : decode cX6_nextIn 7 = .ok (.aload_n 0, 1) := by decide +kernel
theorem dX6_nextIn_8 : decode cX6_nextIn 8 = .ok (.getfield 38, 3) := by decide +kernel
theorem dX6_nextIn_11 : decode cX6_nextIn 11 = .ok (.if_icmp .ge 24, 3) := by decide +kernel
theorem dX6_nextIn_14 : decode cX6_nextIn 14 = .ok (.aload_n 0, 1) := by decide +kernel
theorem dX6_nextIn_15 : decode cX6_nextIn 15 = .ok (.iload_n 3, 1) := by decide +kernel
theorem dX6_nextIn_16 : decode cX6_nextIn 16 = .ok (.iconst 2, 1) := by decide +kernel
theorem dX6_nextIn_17 : decode cX6_nextIn 17 = .ok (.invokevirtual 61, 3) := by decide +kernel
theorem dX6_nextIn_20 : decode cX6_nextIn 20 = .ok (.iload_n 1, 1) := by decide +kernel
theorem dX6_nextIn_21 : decode cX6_nextIn 21 = .ok (.if_icmp .eq 14, 3) := by decide +kernel
theorem dX6_nextIn_24 : decode cX6_nextIn 24 = .ok (.aload_n 0, 1) := by decide +kernel
theorem dX6_nextIn_25 : decode cX6_nextIn 25 = .ok (.iload_n 3, 1) := by decide +kernel
theorem dX6_nextIn_26 : decode cX6_nextIn 26 = .ok (.iconst 1, 1) := by decide +kernel
theorem dX6_nextIn_27 : decode cX6_nextIn 27 = .ok (.iadd, 1) := by decide +kernel
theorem dX6_nextIn_28 : decode cX6_nextIn 28 = .ok (.invokevirtual 143, 3) := by decide +kernel
theorem dX6_nextIn_31 : decode cX6_nextIn 31 = .ok (.istore_n 3, 1) := by decide +kernel
theorem dX6_nextIn_32 : decode cX6_nextIn 32 = .ok (.goto (-26), 3) := by decide +kernel
theorem dX6_nextIn_35 : decode cX6_nextIn 35 = .ok (.iload_n 3, 1) := by decide +kernel
theorem dX6_nextIn_36 : decode cX6_nextIn 36 = .ok (.ireturn, 1) := by decide +kernel
theorem dX6_finds_0 : decode cX6_finds 0 = .ok (.aload_n 0, 1) := by decide +kernel
theorem dX6_finds_1 : decode cX6_finds 1 = .ok (.aload_n 0, 1) := by decide +kernel
theorem dX6_finds_2 : decode cX6_finds 2 = .ok (.iconst 0, 1) := by decide +kernel
theorem dX6_finds_3 : decode cX6_finds 3 = .ok (.invokevirtual 143, 3) := by decide +kernel
theorem dX6_finds_6 : decode cX6_finds 6 = .ok (.putfield 146, 3) := by decide +kernel
theorem dX6_finds_9 : decode cX6_finds 9 = .ok (.aload_n 0, 1) := by decide +kernel
theorem dX6_finds_10 : decode cX6_finds 10 = .ok (.getfield 146, 3) := by decide +kernel
theorem dX6_finds_13 : decode cX6_finds 13 = .ok (.aload_n 0, 1) := by decide +kernel
theorem dX6_finds_14 : decode cX6_finds 14 = .ok (.getfield 38, 3) := by decide +kernel
theorem dX6_finds_17 : decode cX6_finds 17 = .ok (.if_icmp .ne 5, 3) := by decide +kernel
theorem dX6_finds_20 : decode cX6_finds 20 = .ok (.iconst 0, 1) := by decide +kernel
theorem dX6_finds_21 : decode cX6_finds 21 = .ok (.ireturn, 1) := by decide +kernel
theorem dX6_finds_22 : decode cX6_finds 22 = .ok (.aload_n 0, 1) := by decide +kernel
theorem dX6_finds_23 : decode cX6_finds 23 = .ok (.aload_n 0, 1) := by decide +kernel
theorem dX6_finds_24 : decode cX6_finds 24 = .ok (.aload_n 0, 1) := by decide +kernel
theorem dX6_finds_25 : decode cX6_finds 25 = .ok (.getfield 146, 3) := by decide +kernel
theorem dX6_finds_28 : decode cX6_finds 28 = .ok (.iconst 1, 1) := by decide +kernel
theorem dX6_finds_29 : decode cX6_finds 29 = .ok (.iadd, 1) := by decide +kernel
theorem dX6_finds_30 : decode cX6_finds 30 = .ok (.invokevirtual 143, 3) := by decide +kernel
theorem dX6_finds_33 : decode cX6_finds 33 = .ok (.putfield 149, 3) := by decide +kernel
theorem dX6_finds_36 : decode cX6_finds 36 = .ok (.aload_n 0, 1) := by decide +kernel
theorem dX6_finds_37 : decode cX6_finds 37 = .ok (.getfield 149, 3) := by decide +kernel
theorem dX6_finds_40 : decode cX6_finds 40 = .ok (.aload_n 0, 1) := by decide +kernel
theorem dX6_finds_41 : decode cX6_finds 41 = .ok (.getfield 38, 3) := by decide +kernel
theorem dX6_finds_44 : decode cX6_finds 44 = .ok (.if_icmp .ne 10, 3) := by decide +kernel
theorem dX6_finds_47 : decode cX6_finds 47 = .ok (.aload_n 0, 1) := by decide +kernel
theorem dX6_finds_48 : decode cX6_finds 48 = .ok (.iconst (-1), 1) := by decide +kernel
theorem dX6_finds_49 : decode cX6_finds 49 = .ok (.putfield 149, 3) := by decide +kernel
theorem dX6_finds_52 : decode cX6_finds 52 = .ok (.iconst 1, 1) := by decide +kernel
theorem dX6_finds_53 : decode cX6_finds 53 = .ok (.ireturn, 1) := by decide +kernel
theorem dX6_finds_54 : decode cX6_finds 54 = .ok (.aload_n 0, 1) := by decide +kernel
theorem dX6_finds_55 : decode cX6_finds 55 = .ok (.getfield 134, 3) := by decide +kernel
theorem dX6_finds_58 : decode cX6_finds 58 = .ok (.iconst 1, 1) := by decide +kernel
theorem dX6_finds_59 : decode cX6_finds 59 = .ok (.if_icmp .eq 11, 3) := by decide +kernel
theorem dX6_finds_62 : decode cX6_finds 62 = .ok (.aload_n 0, 1) := by decide +kernel
theorem dX6_finds_63 : decode cX6_finds 63 = .ok (.getfield 134, 3) := by decide +kernel
theorem dX6_finds_66 : decode cX6_finds 66 = .ok (.iconst 3, 1) := by decide +kernel
theorem dX6_finds_67 : decode cX6_finds 67 = .ok (.if_icmp .ne 22, 3) := by decide +kernel
theorem dX6_finds_70 : decode cX6_finds 70 = .ok (.aload_n 0, 1) := by decide +kernel
theorem dX6_finds_71 : decode cX6_finds 71 = .ok (.aload_n 0, 1) := by decide +kernel
theorem dX6_finds_72 : decode cX6_finds 72 = .ok (.aload_n 0, 1) := by decide +kernel
theorem dX6_finds_73 : decode cX6_finds 73 = .ok (.getfield 146, 3) := by decide +kernel
theorem dX6_finds_76 : decode cX6_finds 76 = .ok (.aload_n 0, 1) := by decide +kernel
theorem dX6_finds_77 : decode cX6_finds 77 = .ok (.getfield 134, 3) := by decide +kernel
theorem dX6_finds_80 : decode cX6_finds 80 = .ok (.invokevirtual 152, 3) := by decide +kernel
theorem dX6_finds_83 : decode cX6_finds 83 = .ok (.putfield 149, 3) := by decide +kernel
theorem dX6_finds_86 : decode cX6_finds 86 = .ok (.goto 143, 3) := by decide +kernel
theorem dX6_finds_89 : decode cX6_finds 89 = .ok (.aload_n 0, 1) := by decide +kernel
theorem dX6_finds_90 : decode cX6_finds 90 = .ok (.getfield 134, 3) := by decide +kernel
theorem dX6_finds_93 : decode cX6_finds 93 = .ok (.iconst 2, 1) := by decide +kernel
theorem dX6_finds_94 : decode cX6_finds 94 = .ok (.if_icmp .ne 105, 3) := by decide +kernel
theorem dX6_finds_97 : decode cX6_finds 97 = .ok (.iconst 0, 1) := by decide +kernel
theorem dX6_finds_98 : decode cX6_finds 98 = .ok (.istore_n 1, 1) := by decide +kernel
theorem dX6_finds_99 : decode cX6_finds 99 = .ok (.iconst 0, 1) := by decide +kernel
theorem dX6_finds_100 : decode cX6_finds 100 = .ok (.istore_n 2, 1) := by decide +kernel
theorem dX6_finds_101 : decode cX6_finds 101 = .ok (.iload_n 2, 1) := by decide +kernel
theorem dX6_finds_102 : decode cX6_finds 102 = .ok (.iconst 4, 1) := by decide +kernel
theorem dX6_finds_103 : decode cX6_finds 103 = .ok (.if_icmp .ge 93, 3) := by decide +kernel
theorem dX6_finds_106 : decode cX6_finds 106 = .ok (.iload_n 1, 1) := by decide +kernel
theorem dX6_finds_107 : decode cX6_finds 107 = .ok (.ifCond .ne 89, 3) := by decide +kernel
theorem dX6_finds_110 : decode cX6_finds 110 = .ok (.aload_n 0, 1) := by decide +kernel
theorem dX6_finds_111 : decode cX6_finds 111 = .ok (.iload_n 2, 1) := by decide +kernel
theorem dX6_finds_112 : decode cX6_finds 112 = .ok (.iconst 0, 1) := by decide +kernel
theorem dX6_finds_113 : decode cX6_finds 113 = .ok (.invokevirtual 155, 3) := by decide +kernel
theorem dX6_finds_116 : decode cX6_finds 116 = .ok (.istore_n 3, 1) := by decide +kernel
theorem dX6_finds_117 : decode cX6_finds 117 = .ok (.iload_n 3, 1) := by decide +kernel
theorem dX6_finds_118 : decode cX6_finds 118 = .ok (.aload_n 0, 1) := by decide +kernel
theorem dX6_finds_119 : decode cX6_finds 119 = .ok (.getfield 38, 3) := by decide +kernel
theorem dX6_finds_122 : decode cX6_finds 122 = .ok (.if_icmp .ge 14, 3) := by decide +kernel
theorem dX6_finds_125 : decode cX6_finds 125 = .ok (.aload_n 0, 1) := by decide +kernel
theorem dX6_finds_126 : decode cX6_finds 126 = .ok (.iload_n 2, 1) := by decide +kernel
theorem dX6_finds_127 : decode cX6_finds 127 = .ok (.iload_n 3, 1) := by decide +kernel
theorem dX6_finds_128 : decode cX6_finds 128 = .ok (.iconst 1, 1) := by decide +kernel
theorem dX6_finds_129 : decode cX6_finds 129 = .ok (.iadd, 1) := by decide +kernel
theorem dX6_finds_130 : decode cX6_finds 130 = .ok (.invokevirtual 155, 3) := by decide +kernel
theorem dX6_finds_133 : decode cX6_finds 133 = .ok (.goto 7, 3) := by decide +kernel
theorem dX6_finds_136 : decode cX6_finds 136 = .ok (.aload_n 0, 1) := by decide +kernel
theorem dX6_finds_137 : decode cX6_finds 137 = .ok (.getfield 38, 3) := by decide +kernel
theorem dX6_finds_140 : decode cX6_finds 140 = .ok (.istore 4, 2) := by decide +kernel
theorem dX6_finds_142 : decode cX6_finds 142 = .ok (.iload 4, 2) := by decide +kernel
theorem dX6_finds_144 : decode cX6_finds 144 = .ok (.aload_n 0, 1) := by decide +kernel
theorem dX6_finds_145 : decode cX6_finds 145 = .ok (.getfield 38, 3) := by decide +kernel
theorem dX6_finds_148 : decode cX6_finds 148 = .ok (.if_icmp .ge 7, 3) := by decide +kernel
theorem dX6_finds_151 : decode cX6_finds 151 = .ok (.iconst 1, 1) := by decide +kernel
theorem dX6_finds_152 : decode cX6_finds 152 = .ok (.goto 4, 3) := by decide +kernel
theorem dX6_finds_155 : decode cX6_finds 155 = .ok (.iconst 0, 1) := by decide +kernel
theorem dX6_finds_156 : decode cX6_finds 156 = .ok (.istore_n 1, 1) := by decide +kernel
theorem dX6_finds_157 : decode cX6_finds 157 = .ok (.aload_n 0, 1) := by decide +kernel
theorem dX6_finds_158 : decode cX6_finds 158 = .ok (.iload_n 1, 1) := by decide +kernel
theorem dX6_finds_159 : decode cX6_finds 159 = .ok (.ifCond .eq 7, 3) := by decide +kernel
theorem dX6_finds_162 : decode cX6_finds 162 = .ok (.iload_n 3, 1) := by decide +kernel
theorem dX6_finds_163 : decode cX6_finds 163 = .ok (.goto 7, 3) := by decide +kernel
theorem dX6_finds_166 : decode cX6_finds 166 = .ok (.aload_n 0, 1) := by decide +kernel
theorem dX6_finds_167 : decode cX6_finds 167 = .ok (.getfield 146, 3) := by decide +kernel
theorem dX6_finds_170 : decode cX6_finds 170 = .ok (.putfield 146, 3) := by decide +kernel
theorem dX6_finds_173 : decode cX6_finds 173 = .ok (.aload_n 0, 1) := by decide +kernel
theorem dX6_finds_174 : decode cX6_finds 174 = .ok (.iload_n 1, 1) := by decide +kernel
theorem dX6_finds_175 : decode cX6_finds 175 = .ok (.ifCond .eq 8, 3) := by decide +kernel
theorem dX6_finds_178 : decode cX6_finds 178 = .ok (.iload 4, 2) := by decide +kernel
theorem dX6_finds_180 : decode cX6_finds 180 = .ok (.goto 7, 3) := by decide +kernel
theorem dX6_finds_183 : decode cX6_finds 183 = .ok (.aload_n 0, 1) := by decide +kernel
theorem dX6_finds_184 : decode cX6_finds 184 = .ok (.getfield 149, 3) := by decide +kernel
theorem dX6_finds_187 : decode cX6_finds 187 = .ok (.putfield 149, 3) := by decide +kernel
theorem dX6_finds_190 : decode cX6_finds 190 = .ok (.iinc 2 1, 3) := by decide +kernel
theorem dX6_finds_193 : decode cX6_finds 193 = .ok (.goto (-92), 3) := by decide +kernel
theorem dX6_finds_196 : decode cX6_finds 196 = .ok (.goto 33, 3) := by decide +kernel
theorem dX6_finds_199 : decode cX6_finds 199 = .ok (.aload_n 0, 1) := by decide +kernel
theorem dX6_finds_200 : decode cX6_finds 200 = .ok (.getfield 134, 3) := by decide +kernel
theorem dX6_finds_203 : decode cX6_finds 203 = .ok (.ifCond .eq 26, 3) := by decide +kernel
theorem dX6_finds_206 : decode cX6_finds 206 = .ok (.aload_n 0, 1) := by decide +kernel
theorem dX6_finds_207 : decode cX6_finds 207 = .ok (.aload_n 0, 1) := by decide +kernel
theorem dX6_finds_208 : decode cX6_finds 208 = .ok (.iconst (-1), 1) := by decide +kernel
theorem dX6_finds_209 : decode cX6_finds 209 = .ok (.iconst 4, 1) := by decide +kernel
theorem dX6_finds_210 : decode cX6_finds 210 = .ok (.invokevirtual 152, 3) := by decide +kernel
theorem dX6_finds_213 : decode cX6_finds 213 = .ok (.putfield 146, 3) := by decide +kernel
theorem dX6_finds_216 : decode cX6_finds 216 = .ok (.aload_n 0, 1) := by decide +kernel
theorem dX6_finds_217 : decode cX6_finds 217 = .ok (.aload_n 0, 1) := by decide +kernel
theorem dX6_finds_218 : decode cX6_finds 218 = .ok (.aload_n 0, 1) := by decide +kernel
theorem dX6_finds_219 : decode cX6_finds 219 = .ok (.getfield 146, 3) := by decide +kernel
theorem dX6_finds_222 : decode cX6_finds 222 = .ok (.iconst 4, 1) := by decide +kernel
theorem dX6_finds_223 : decode cX6_finds 223 = .ok (.invokevirtual 152, 3) := by decide +kernel
theorem dX6_finds_226 : decode cX6_finds 226 = .ok (.putfield 149, 3) := by decide +kernel
theorem dX6_finds_229 : decode cX6_finds 229 = .ok (.iconst 1, 1) := by decide +kernel
theorem dX6_finds_230 : decode cX6_finds 230 = .ok (.ireturn, 1) := by decide +kernel
theorem dX6_sizeOfPlay_0 : decode cX6_sizeOfPlay 0 = .ok (.aload_n 0, 1) := by decide +kernel
theorem dX6_sizeOfPlay_1 : decode cX6_sizeOfPlay 1 = .ok (.getfield 149, 3) := by decide +kernel
theorem dX6_sizeOfPlay_4 : decode cX6_sizeOfPlay 4 = .ok (.iconst (-1), 1) := by decide +kernel
theorem dX6_sizeOfPlay_5 : decode cX6_sizeOfPlay 5 = .ok (.if_icmp .ne 6, 3) := by decide +kernel
theorem dX6_sizeOfPlay_8 : decode cX6_sizeOfPlay 8 = .ok (.bipush 12, 2) := by decide +kernel
theorem dX6_sizeOfPlay_10 : decode cX6_sizeOfPlay 10 = .ok (.ireturn, 1) := by decide +kernel
theorem dX6_sizeOfPlay_11 : decode cX6_sizeOfPlay 11 = .ok (.aload_n 0, 1) := by decide +kernel
theorem dX6_sizeOfPlay_12 : decode cX6_sizeOfPlay 12 = .ok (.getfield 16, 3) := by decide +kernel
theorem dX6_sizeOfPlay_15 : decode cX6_sizeOfPlay 15 = .ok (.aload_n 0, 1) := by decide +kernel
theorem dX6_sizeOfPlay_16 : decode cX6_sizeOfPlay 16 = .ok (.getfield 146, 3) := by decide +kernel
theorem dX6_sizeOfPlay_19 : decode cX6_sizeOfPlay 19 = .ok (.iaload, 1) := by decide +kernel
theorem dX6_sizeOfPlay_20 : decode cX6_sizeOfPlay 20 = .ok (.aload_n 0, 1) := by decide +kernel
theorem dX6_sizeOfPlay_21 : decode cX6_sizeOfPlay 21 = .ok (.getfield 16, 3) := by decide +kernel
theorem dX6_sizeOfPlay_24 : decode cX6_sizeOfPlay 24 = .ok (.aload_n 0, 1) := by decide +kernel
theorem dX6_sizeOfPlay_25 : decode cX6_sizeOfPlay 25 = .ok (.getfield 149, 3) := by decide +kernel
theorem dX6_sizeOfPlay_28 : decode cX6_sizeOfPlay 28 = .ok (.iaload, 1) := by decide +kernel
theorem dX6_sizeOfPlay_29 : decode cX6_sizeOfPlay 29 = .ok (.iadd, 1) := by decide +kernel
theorem dX6_sizeOfPlay_30 : decode cX6_sizeOfPlay 30 = .ok (.istore_n 1, 1) := by decide +kernel
theorem dX6_sizeOfPlay_31 : decode cX6_sizeOfPlay 31 = .ok (.iload_n 1, 1) := by decide +kernel
theorem dX6_sizeOfPlay_32 : decode cX6_sizeOfPlay 32 = .ok (.bipush 12, 2) := by decide +kernel
theorem dX6_sizeOfPlay_34 : decode cX6_sizeOfPlay 34 = .ok (.if_icmp .gt 7, 3) := by decide +kernel
theorem dX6_sizeOfPlay_37 : decode cX6_sizeOfPlay 37 = .ok (.iload_n 1, 1) := by decide +kernel
theorem dX6_sizeOfPlay_38 : decode cX6_sizeOfPlay 38 = .ok (.goto 7, 3) := by decide +kernel
theorem dX6_sizeOfPlay_41 : decode cX6_sizeOfPlay 41 = .ok (.bipush 24, 2) := by decide +kernel
theorem dX6_sizeOfPlay_43 : decode cX6_sizeOfPlay 43 = .ok (.iload_n 1, 1) := by decide +kernel
theorem dX6_sizeOfPlay_44 : decode cX6_sizeOfPlay 44 = .ok (.isub, 1) := by decide +kernel
theorem dX6_sizeOfPlay_45 : decode cX6_sizeOfPlay 45 = .ok (.ireturn, 1) := by decide +kernel
theorem dX6_chancesOfOne_0 : decode cX6_chancesOfOne 0 = .ok (.aload_n 0, 1) := by decide +kernel
theorem dX6_chancesOfOne_1 : decode cX6_chancesOfOne 1 = .ok (.getfield 149, 3) := by decide +kernel
theorem dX6_chancesOfOne_4 : decode cX6_chancesOfOne 4 = .ok (.iconst (-1), 1) := by decide +kernel
theorem dX6_chancesOfOne_5 : decode cX6_chancesOfOne 5 = .ok (.if_icmp .ne 13, 3) := by decide +kernel
theorem dX6_chancesOfOne_8 : decode cX6_chancesOfOne 8 = .ok (.aload_n 0, 1) := by decide +kernel
theorem dX6_chancesOfOne_9 : decode cX6_chancesOfOne 9 = .ok (.getfield 16, 3) := by decide +kernel
theorem dX6_chancesOfOne_12 : decode cX6_chancesOfOne 12 = .ok (.aload_n 0, 1) := by decide +kernel
theorem dX6_chancesOfOne_13 : decode cX6_chancesOfOne 13 = .ok (.getfield 146, 3) := by decide +kernel
theorem dX6_chancesOfOne_16 : decode cX6_chancesOfOne 16 = .ok (.iaload, 1) := by decide +kernel
theorem dX6_chancesOfOne_17 : decode cX6_chancesOfOne 17 = .ok (.ireturn, 1) := by decide +kernel
theorem dX6_chancesOfOne_18 : decode cX6_chancesOfOne 18 = .ok (.aload_n 0, 1) := by decide +kernel
theorem dX6_chancesOfOne_19 : decode cX6_chancesOfOne 19 = .ok (.getfield 16, 3) := by decide +kernel
theorem dX6_chancesOfOne_22 : decode cX6_chancesOfOne 22 = .ok (.aload_n 0, 1) := by decide +kernel
theorem dX6_chancesOfOne_23 : decode cX6_chancesOfOne 23 = .ok (.getfield 146, 3) := by decide +kernel
theorem dX6_chancesOfOne_26 : decode cX6_chancesOfOne 26 = .ok (.iaload, 1) := by decide +kernel
theorem dX6_chancesOfOne_27 : decode cX6_chancesOfOne 27 = .ok (.aload_n 0, 1) := by decide +kernel
theorem dX6_chancesOfOne_28 : decode cX6_chancesOfOne 28 = .ok (.getfield 16, 3) := by decide +kernel
theorem dX6_chancesOfOne_31 : decode cX6_chancesOfOne 31 = .ok (.aload_n 0, 1) := by decide +kernel
theorem dX6_chancesOfOne_32 : decode cX6_chancesOfOne 32 = .ok (.getfield 149, 3) := by decide +kernel
theorem dX6_chancesOfOne_35 : decode cX6_chancesOfOne 35 = .ok (.iaload, 1) := by decide +kernel
theorem dX6_chancesOfOne_36 : decode cX6_chancesOfOne 36 = .ok (.iadd, 1) := by decide +kernel
theorem dX6_chancesOfOne_37 : decode cX6_chancesOfOne 37 = .ok (.bipush 12, 2) := by decide +kernel
theorem dX6_chancesOfOne_39 : decode cX6_chancesOfOne 39 = .ok (.if_icmp .gt 15, 3) := by decide +kernel
theorem dX6_chancesOfOne_42 : decode cX6_chancesOfOne 42 = .ok (.aload_n 0, 1) := by decide +kernel
theorem dX6_chancesOfOne_43 : decode cX6_chancesOfOne 43 = .ok (.getfield 16, 3) := by decide +kernel
theorem dX6_chancesOfOne_46 : decode cX6_chancesOfOne 46 = .ok (.aload_n 0, 1) := by decide +kernel
theorem dX6_chancesOfOne_47 : decode cX6_chancesOfOne 47 = .ok (.getfield 146, 3) := by decide +kernel
theorem dX6_chancesOfOne_50 : decode cX6_chancesOfOne 50 = .ok (.iaload, 1) := by decide +kernel
theorem dX6_chancesOfOne_51 : decode cX6_chancesOfOne 51 = .ok (.goto 15, 3) := by decide +kernel
theorem dX6_chancesOfOne_54 : decode cX6_chancesOfOne 54 = .ok (.bipush 12, 2) := by decide +kernel
theorem dX6_chancesOfOne_56 : decode cX6_chancesOfOne 56 = .ok (.aload_n 0, 1) := by decide +kernel
theorem dX6_chancesOfOne_57 : decode cX6_chancesOfOne 57 = .ok (.getfield 16, 3) := by decide +kernel
theorem dX6_chancesOfOne_60 : decode cX6_chancesOfOne 60 = .ok (.aload_n 0, 1) := by decide +kernel
theorem dX6_chancesOfOne_61 : decode cX6_chancesOfOne 61 = .ok (.getfield 149, 3) := by decide +kernel
theorem dX6_chancesOfOne_64 : decode cX6_chancesOfOne 64 = .ok (.iaload, 1) := by decide +kernel
theorem dX6_chancesOfOne_65 : decode cX6_chancesOfOne 65 = .ok (.isub, 1) := by decide +kernel
theorem dX6_chancesOfOne_66 : decode cX6_chancesOfOne 66 = .ok (.ireturn, 1) := by decide +kernel
theorem dX6_gets_0 : decode cX6_gets 0 = .ok (.aload_n 0, 1) := by decide +kernel
theorem dX6_gets_1 : decode cX6_gets 1 = .ok (.getfield 149, 3) := by decide +kernel
theorem dX6_gets_4 : decode cX6_gets 4 = .ok (.iconst (-1), 1) := by decide +kernel
theorem dX6_gets_5 : decode cX6_gets 5 = .ok (.if_icmp .ne 23, 3) := by decide +kernel
theorem dX6_gets_8 : decode cX6_gets 8 = .ok (.aload_n 0, 1) := by decide +kernel
theorem dX6_gets_9 : decode cX6_gets 9 = .ok (.getfield 16, 3) := by decide +kernel
theorem dX6_gets_12 : decode cX6_gets 12 = .ok (.aload_n 0, 1) := by decide +kernel
theorem dX6_gets_13 : decode cX6_gets 13 = .ok (.getfield 146, 3) := by decide +kernel
theorem dX6_gets_16 : decode cX6_gets 16 = .ok (.iload_n 1, 1) := by decide +kernel
theorem dX6_gets_17 : decode cX6_gets 17 = .ok (.ifCond .eq 8, 3) := by decide +kernel
theorem dX6_gets_20 : decode cX6_gets 20 = .ok (.bipush 12, 2) := by decide +kernel
theorem dX6_gets_22 : decode cX6_gets 22 = .ok (.goto 4, 3) := by decide +kernel
theorem dX6_gets_25 : decode cX6_gets 25 = .ok (.iconst 0, 1) := by decide +kernel
theorem dX6_gets_26 : decode cX6_gets 26 = .ok (.iastore, 1) := by decide +kernel
theorem dX6_gets_27 : decode cX6_gets 27 = .ok (.return_, 1) := by decide +kernel
theorem dX6_gets_28 : decode cX6_gets 28 = .ok (.aload_n 0, 1) := by decide +kernel
theorem dX6_gets_29 : decode cX6_gets 29 = .ok (.getfield 16, 3) := by decide +kernel
theorem dX6_gets_32 : decode cX6_gets 32 = .ok (.aload_n 0, 1) := by decide +kernel
theorem dX6_gets_33 : decode cX6_gets 33 = .ok (.getfield 146, 3) := by decide +kernel
theorem dX6_gets_36 : decode cX6_gets 36 = .ok (.iaload, 1) := by decide +kernel
theorem dX6_gets_37 : decode cX6_gets 37 = .ok (.aload_n 0, 1) := by decide +kernel
theorem dX6_gets_38 : decode cX6_gets 38 = .ok (.getfield 16, 3) := by decide +kernel
theorem dX6_gets_41 : decode cX6_gets 41 = .ok (.aload_n 0, 1) := by decide +kernel
theorem dX6_gets_42 : decode cX6_gets 42 = .ok (.getfield 149, 3) := by decide +kernel
theorem dX6_gets_45 : decode cX6_gets 45 = .ok (.iaload, 1) := by decide +kernel
theorem dX6_gets_46 : decode cX6_gets 46 = .ok (.iadd, 1) := by decide +kernel
theorem dX6_gets_47 : decode cX6_gets 47 = .ok (.istore_n 2, 1) := by decide +kernel
theorem dX6_gets_48 : decode cX6_gets 48 = .ok (.iload_n 2, 1) := by decide +kernel
theorem dX6_gets_49 : decode cX6_gets 49 = .ok (.bipush 12, 2) := by decide +kernel
theorem dX6_gets_51 : decode cX6_gets 51 = .ok (.if_icmp .gt 7, 3) := by decide +kernel
theorem dX6_gets_54 : decode cX6_gets 54 = .ok (.iload_n 2, 1) := by decide +kernel
theorem dX6_gets_55 : decode cX6_gets 55 = .ok (.goto 5, 3) := by decide +kernel
theorem dX6_gets_58 : decode cX6_gets 58 = .ok (.bipush 12, 2) := by decide +kernel
theorem dX6_gets_60 : decode cX6_gets 60 = .ok (.istore_n 3, 1) := by decide +kernel
theorem dX6_gets_61 : decode cX6_gets 61 = .ok (.aload_n 0, 1) := by decide +kernel
theorem dX6_gets_62 : decode cX6_gets 62 = .ok (.getfield 16, 3) := by decide +kernel
theorem dX6_gets_65 : decode cX6_gets 65 = .ok (.aload_n 0, 1) := by decide +kernel
theorem dX6_gets_66 : decode cX6_gets 66 = .ok (.getfield 146, 3) := by decide +kernel
theorem dX6_gets_69 : decode cX6_gets 69 = .ok (.iload_n 1, 1) := by decide +kernel
theorem dX6_gets_70 : decode cX6_gets 70 = .ok (.ifCond .eq 7, 3) := by decide +kernel
theorem dX6_gets_73 : decode cX6_gets 73 = .ok (.iload_n 3, 1) := by decide +kernel
theorem dX6_gets_74 : decode cX6_gets 74 = .ok (.goto 6, 3) := by decide +kernel
theorem dX6_gets_77 : decode cX6_gets 77 = .ok (.iload_n 2, 1) := by decide +kernel
theorem dX6_gets_78 : decode cX6_gets 78 = .ok (.iload_n 3, 1) := by decide +kernel
theorem dX6_gets_79 : decode cX6_gets 79 = .ok (.isub, 1) := by decide +kernel
theorem dX6_gets_80 : decode cX6_gets 80 = .ok (.iastore, 1) := by decide +kernel
theorem dX6_gets_81 : decode cX6_gets 81 = .ok (.aload_n 0, 1) := by decide +kernel
theorem dX6_gets_82 : decode cX6_gets 82 = .ok (.getfield 16, 3) := by decide +kernel
theorem dX6_gets_85 : decode cX6_gets 85 = .ok (.aload_n 0, 1) := by decide +kernel
theorem dX6_gets_86 : decode cX6_gets 86 = .ok (.getfield 149, 3) := by decide +kernel
theorem dX6_gets_89 : decode cX6_gets 89 = .ok (.iload_n 1, 1) := by decide +kernel
theorem dX6_gets_90 : decode cX6_gets 90 = .ok (.ifCond .eq 9, 3) := by decide +kernel
theorem dX6_gets_93 : decode cX6_gets 93 = .ok (.iload_n 2, 1) := by decide +kernel
theorem dX6_gets_94 : decode cX6_gets 94 = .ok (.iload_n 3, 1) := by decide +kernel
theorem dX6_gets_95 : decode cX6_gets 95 = .ok (.isub, 1) := by decide +kernel
theorem dX6_gets_96 : decode cX6_gets 96 = .ok (.goto 4, 3) := by decide +kernel
theorem dX6_gets_99 : decode cX6_gets 99 = .ok (.iload_n 3, 1) := by decide +kernel
theorem dX6_gets_100 : decode cX6_gets 100 = .ok (.iastore, 1) := by decide +kernel
theorem dX6_gets_101 : decode cX6_gets 101 = .ok (.return_, 1) := by decide +kernel
theorem dX6_begins_0 : decode cX6_begins 0 = .ok (.iconst 0, 1) := by decide +kernel
theorem dX6_begins_1 : decode cX6_begins 1 = .ok (.istore_n 1, 1) := by decide +kernel
theorem dX6_begins_2 : decode cX6_begins 2 = .ok (.iload_n 1, 1) := by decide +kernel
theorem dX6_begins_3 : decode cX6_begins 3 = .ok (.aload_n 0, 1) := by decide +kernel
theorem dX6_begins_4 : decode cX6_begins 4 = .ok (.getfield 38, 3) := by decide +kernel
theorem dX6_begins_7 : decode cX6_begins 7 = .ok (.if_icmp .ge 21, 3) := by decide +kernel
theorem dX6_begins_10 : decode cX6_begins 10 = .ok (.aload_n 0, 1) := by decide +kernel
theorem dX6_begins_11 : decode cX6_begins 11 = .ok (.getfield 16, 3) := by decide +kernel
theorem dX6_begins_14 : decode cX6_begins 14 = .ok (.iload_n 1, 1) := by decide +kernel
theorem dX6_begins_15 : decode cX6_begins 15 = .ok (.aload_n 0, 1) := by decide +kernel
theorem dX6_begins_16 : decode cX6_begins 16 = .ok (.iload_n 1, 1) := by decide +kernel
theorem dX6_begins_17 : decode cX6_begins 17 = .ok (.iconst 0, 1) := by decide +kernel
theorem dX6_begins_18 : decode cX6_begins 18 = .ok (.invokevirtual 61, 3) := by decide +kernel
theorem dX6_begins_21 : decode cX6_begins 21 = .ok (.iastore, 1) := by decide +kernel
theorem dX6_begins_22 : decode cX6_begins 22 = .ok (.iinc 1 1, 3) := by decide +kernel
theorem dX6_begins_25 : decode cX6_begins 25 = .ok (.goto (-23), 3) := by decide +kernel
theorem dX6_begins_28 : decode cX6_begins 28 = .ok (.return_, 1) := by decide +kernel
theorem dX6_sampleNow_0 : decode cX6_sampleNow 0 = .ok (.iconst 0, 1) := by decide +kernel
theorem dX6_sampleNow_1 : decode cX6_sampleNow 1 = .ok (.istore_n 1, 1) := by decide +kernel
theorem dX6_sampleNow_2 : decode cX6_sampleNow 2 = .ok (.iconst 0, 1) := by decide +kernel
theorem dX6_sampleNow_3 : decode cX6_sampleNow 3 = .ok (.istore_n 2, 1) := by decide +kernel
theorem dX6_sampleNow_4 : decode cX6_sampleNow 4 = .ok (.iload_n 2, 1) := by decide +kernel
theorem dX6_sampleNow_5 : decode cX6_sampleNow 5 = .ok (.aload_n 0, 1) := by decide +kernel
theorem dX6_sampleNow_6 : decode cX6_sampleNow 6 = .ok (.getfield 38, 3) := by decide +kernel
theorem dX6_sampleNow_9 : decode cX6_sampleNow 9 = .ok (.if_icmp .ge 30, 3) := by decide +kernel
theorem dX6_sampleNow_12 : decode cX6_sampleNow 12 = .ok (.iload_n 1, 1) := by decide +kernel
theorem dX6_sampleNow_13 : decode cX6_sampleNow 13 = .ok (.aload_n 0, 1) := by decide +kernel
theorem dX6_sampleNow_14 : decode cX6_sampleNow 14 = .ok (.getfield 16, 3) := by decide +kernel
theorem dX6_sampleNow_17 : decode cX6_sampleNow 17 = .ok (.iload_n 2, 1) := by decide +kernel
theorem dX6_sampleNow_18 : decode cX6_sampleNow 18 = .ok (.iaload, 1) := by decide +kernel
theorem dX6_sampleNow_19 : decode cX6_sampleNow 19 = .ok (.bipush 12, 2) := by decide +kernel
theorem dX6_sampleNow_21 : decode cX6_sampleNow 21 = .ok (.if_icmp .ne 9, 3) := by decide +kernel
theorem dX6_sampleNow_24 : decode cX6_sampleNow 24 = .ok (.iconst 1, 1) := by decide +kernel
theorem dX6_sampleNow_25 : decode cX6_sampleNow 25 = .ok (.iload_n 2, 1) := by decide +kernel
theorem dX6_sampleNow_26 : decode cX6_sampleNow 26 = .ok (.ishl, 1) := by decide +kernel
theorem dX6_sampleNow_27 : decode cX6_sampleNow 27 = .ok (.goto 4, 3) := by decide +kernel
theorem dX6_sampleNow_30 : decode cX6_sampleNow 30 = .ok (.iconst 0, 1) := by decide +kernel
theorem dX6_sampleNow_31 : decode cX6_sampleNow 31 = .ok (.ior, 1) := by decide +kernel
theorem dX6_sampleNow_32 : decode cX6_sampleNow 32 = .ok (.istore_n 1, 1) := by decide +kernel
theorem dX6_sampleNow_33 : decode cX6_sampleNow 33 = .ok (.iinc 2 1, 3) := by decide +kernel
theorem dX6_sampleNow_36 : decode cX6_sampleNow 36 = .ok (.goto (-32), 3) := by decide +kernel
theorem dX6_sampleNow_39 : decode cX6_sampleNow 39 = .ok (.iload_n 1, 1) := by decide +kernel
theorem dX6_sampleNow_40 : decode cX6_sampleNow 40 = .ok (.ireturn, 1) := by decide +kernel
theorem dX6_walked_0 : decode cX6_walked 0 = .ok (.iload_n 1, 1) := by decide +kernel
theorem dX6_walked_1 : decode cX6_walked 1 = .ok (.i2l, 1) := by decide +kernel
theorem dX6_walked_2 : decode cX6_walked 2 = .ok (.lstore_n 2, 1) := by decide +kernel
theorem dX6_walked_3 : decode cX6_walked 3 = .ok (.aload_n 0, 1) := by decide +kernel
theorem dX6_walked_4 : decode cX6_walked 4 = .ok (.iconst 0, 1) := by decide +kernel
theorem dX6_walked_5 : decode cX6_walked 5 = .ok (.putfield 158, 3) := by decide +kernel
theorem dX6_walked_8 : decode cX6_walked 8 = .ok (.aload_n 0, 1) := by decide +kernel
theorem dX6_walked_9 : decode cX6_walked 9 = .ok (.iconst 0, 1) := by decide +kernel
theorem dX6_walked_10 : decode cX6_walked 10 = .ok (.putfield 161, 3) := by decide +kernel
theorem dX6_walked_13 : decode cX6_walked 13 = .ok (.aload_n 0, 1) := by decide +kernel
theorem dX6_walked_14 : decode cX6_walked 14 = .ok (.iconst 0, 1) := by decide +kernel
theorem dX6_walked_15 : decode cX6_walked 15 = .ok (.putfield 164, 3) := by decide +kernel
theorem dX6_walked_18 : decode cX6_walked 18 = .ok (.aload_n 0, 1) := by decide +kernel
theorem dX6_walked_19 : decode cX6_walked 19 = .ok (.invokevirtual 167, 3) := by decide +kernel
theorem dX6_walked_22 : decode cX6_walked 22 = .ok (.aload_n 0, 1) := by decide +kernel
theorem dX6_walked_23 : decode cX6_walked 23 = .ok (.invokevirtual 170, 3) := by decide +kernel
theorem dX6_walked_26 : decode cX6_walked 26 = .ok (.ifCond .eq 203, 3) := by decide +kernel
theorem dX6_walked_29 : decode cX6_walked 29 = .ok (.lload_n 2, 1) := by decide +kernel
theorem dX6_walked_30 : decode cX6_walked 30 = .ok (.invokestatic 100, 3) := by decide +kernel
theorem dX6_walked_33 : decode cX6_walked 33 = .ok (.lstore_n 2, 1) := by decide +kernel
theorem dX6_walked_34 : decode cX6_walked 34 = .ok (.lload_n 2, 1) := by decide +kernel
theorem dX6_walked_35 : decode cX6_walked 35 = .ok (.ldc2_w 104, 3) := by decide +kernel
theorem dX6_walked_38 : decode cX6_walked 38 = .ok (.ldiv, 1) := by decide +kernel
theorem dX6_walked_39 : decode cX6_walked 39 = .ok (.aload_n 0, 1) := by decide +kernel
theorem dX6_walked_40 : decode cX6_walked 40 = .ok (.invokevirtual 174, 3) := by decide +kernel
theorem dX6_walked_43 : decode cX6_walked 43 = .ok (.i2l, 1) := by decide +kernel
theorem dX6_walked_44 : decode cX6_walked 44 = .ok (.lrem, 1) := by decide +kernel
theorem dX6_walked_45 : decode cX6_walked 45 = .ok (.l2i, 1) := by decide +kernel
theorem dX6_walked_46 : decode cX6_walked 46 = .ok (.istore 4, 2) := by decide +kernel
theorem dX6_walked_48 : decode cX6_walked 48 = .ok (.iload 4, 2) := by decide +kernel
theorem dX6_walked_50 : decode cX6_walked 50 = .ok (.aload_n 0, 1) := by decide +kernel
theorem dX6_walked_51 : decode cX6_walked 51 = .ok (.invokevirtual 177, 3) := by decide +kernel
theorem dX6_walked_54 : decode cX6_walked 54 = .ok (.if_icmp .ge 7, 3) := by decide +kernel
theorem dX6_walked_57 : decode cX6_walked 57 = .ok (.iconst 1, 1) := by decide +kernel
theorem dX6_walked_58 : decode cX6_walked 58 = .ok (.goto 4, 3) := by decide +kernel
theorem dX6_walked_61 : decode cX6_walked 61 = .ok (.iconst 0, 1) := by decide +kernel
theorem dX6_walked_62 : decode cX6_walked 62 = .ok (.istore 5, 2) := by decide +kernel
theorem dX6_walked_64 : decode cX6_walked 64 = .ok (.aload_n 0, 1) := by decide +kernel
theorem dX6_walked_65 : decode cX6_walked 65 = .ok (.getfield 149, 3) := by decide +kernel
theorem dX6_walked_68 : decode cX6_walked 68 = .ok (.iconst (-1), 1) := by decide +kernel
theorem dX6_walked_69 : decode cX6_walked 69 = .ok (.if_icmp .eq 31, 3) := by decide +kernel
theorem dX6_walked_72 : decode cX6_walked 72 = .ok (.aload_n 0, 1) := by decide +kernel
theorem dX6_walked_73 : decode cX6_walked 73 = .ok (.getfield 16, 3) := by decide +kernel
theorem dX6_walked_76 : decode cX6_walked 76 = .ok (.aload_n 0, 1) := by decide +kernel
theorem dX6_walked_77 : decode cX6_walked 77 = .ok (.getfield 146, 3) := by decide +kernel
theorem dX6_walked_80 : decode cX6_walked 80 = .ok (.iaload, 1) := by decide +kernel
theorem dX6_walked_81 : decode cX6_walked 81 = .ok (.aload_n 0, 1) := by decide +kernel
theorem dX6_walked_82 : decode cX6_walked 82 = .ok (.getfield 16, 3) := by decide +kernel
theorem dX6_walked_85 : decode cX6_walked 85 = .ok (.aload_n 0, 1) := by decide +kernel
theorem dX6_walked_86 : decode cX6_walked 86 = .ok (.getfield 149, 3) := by decide +kernel
theorem dX6_walked_89 : decode cX6_walked 89 = .ok (.iaload, 1) := by decide +kernel
theorem dX6_walked_90 : decode cX6_walked 90 = .ok (.iadd, 1) := by decide +kernel
theorem dX6_walked_91 : decode cX6_walked 91 = .ok (.bipush 12, 2) := by decide +kernel
theorem dX6_walked_93 : decode cX6_walked 93 = .ok (.if_icmp .gt 7, 3) := by decide +kernel
theorem dX6_walked_96 : decode cX6_walked 96 = .ok (.iconst 1, 1) := by decide +kernel
theorem dX6_walked_97 : decode cX6_walked 97 = .ok (.goto 4, 3) := by decide +kernel
theorem dX6_walked_100 : decode cX6_walked 100 = .ok (.iconst 0, 1) := by decide +kernel
theorem dX6_walked_101 : decode cX6_walked 101 = .ok (.istore 6, 2) := by decide +kernel
theorem dX6_walked_103 : decode cX6_walked 103 = .ok (.aload_n 0, 1) := by decide +kernel
theorem dX6_walked_104 : decode cX6_walked 104 = .ok (.getfield 22, 3) := by decide +kernel
theorem dX6_walked_107 : decode cX6_walked 107 = .ok (.iconst 3, 1) := by decide +kernel
theorem dX6_walked_108 : decode cX6_walked 108 = .ok (.aload_n 0, 1) := by decide +kernel
theorem dX6_walked_109 : decode cX6_walked 109 = .ok (.getfield 158, 3) := by decide +kernel
theorem dX6_walked_112 : decode cX6_walked 112 = .ok (.imul, 1) := by decide +kernel
theorem dX6_walked_113 : decode cX6_walked 113 = .ok (.aload_n 0, 1) := by decide +kernel
theorem dX6_walked_114 : decode cX6_walked 114 = .ok (.getfield 146, 3) := by decide +kernel
theorem dX6_walked_117 : decode cX6_walked 117 = .ok (.iastore, 1) := by decide +kernel
theorem dX6_walked_118 : decode cX6_walked 118 = .ok (.aload_n 0, 1) := by decide +kernel
theorem dX6_walked_119 : decode cX6_walked 119 = .ok (.getfield 22, 3) := by decide +kernel
theorem dX6_walked_122 : decode cX6_walked 122 = .ok (.iconst 3, 1) := by decide +kernel
theorem dX6_walked_123 : decode cX6_walked 123 = .ok (.aload_n 0, 1) := by decide +kernel
theorem dX6_walked_124 : decode cX6_walked 124 = .ok (.getfield 158, 3) := by decide +kernel
theorem dX6_walked_127 : decode cX6_walked 127 = .ok (.imul, 1) := by decide +kernel
theorem dX6_walked_128 : decode cX6_walked 128 = .ok (.iconst 1, 1) := by decide +kernel
theorem dX6_walked_129 : decode cX6_walked 129 = .ok (.iadd, 1) := by decide +kernel
theorem dX6_walked_130 : decode cX6_walked 130 = .ok (.aload_n 0, 1) := by decide +kernel
theorem dX6_walked_131 : decode cX6_walked 131 = .ok (.getfield 149, 3) := by decide +kernel
theorem dX6_walked_134 : decode cX6_walked 134 = .ok (.iastore, 1) := by decide +kernel
theorem dX6_walked_135 : decode cX6_walked 135 = .ok (.aload_n 0, 1) := by decide +kernel
theorem dX6_walked_136 : decode cX6_walked 136 = .ok (.getfield 22, 3) := by decide +kernel
theorem dX6_walked_139 : decode cX6_walked 139 = .ok (.iconst 3, 1) := by decide +kernel
theorem dX6_walked_140 : decode cX6_walked 140 = .ok (.aload_n 0, 1) := by decide +kernel
theorem dX6_walked_141 : decode cX6_walked 141 = .ok (.getfield 158, 3) := by decide +kernel
theorem dX6_walked_144 : decode cX6_walked 144 = .ok (.imul, 1) := by decide +kernel
theorem dX6_walked_145 : decode cX6_walked 145 = .ok (.iconst 2, 1) := by decide +kernel
theorem dX6_walked_146 : decode cX6_walked 146 = .ok (.iadd, 1) := by decide +kernel
theorem dX6_walked_147 : decode cX6_walked 147 = .ok (.iload 5, 2) := by decide +kernel
theorem dX6_walked_149 : decode cX6_walked 149 = .ok (.ifCond .eq 10, 3) := by decide +kernel
theorem dX6_walked_152 : decode cX6_walked 152 = .ok (.aload_n 0, 1) := by decide +kernel
theorem dX6_walked_153 : decode cX6_walked 153 = .ok (.getfield 146, 3) := by decide +kernel
theorem dX6_walked_156 : decode cX6_walked 156 = .ok (.goto 7, 3) := by decide +kernel
theorem dX6_walked_159 : decode cX6_walked 159 = .ok (.aload_n 0, 1) := by decide +kernel
theorem dX6_walked_160 : decode cX6_walked 160 = .ok (.getfield 149, 3) := by decide +kernel
theorem dX6_walked_163 : decode cX6_walked 163 = .ok (.iastore, 1) := by decide +kernel
theorem dX6_walked_164 : decode cX6_walked 164 = .ok (.aload_n 0, 1) := by decide +kernel
theorem dX6_walked_165 : decode cX6_walked 165 = .ok (.dup, 1) := by decide +kernel
theorem dX6_walked_166 : decode cX6_walked 166 = .ok (.getfield 158, 3) := by decide +kernel
theorem dX6_walked_169 : decode cX6_walked 169 = .ok (.iconst 1, 1) := by decide +kernel
theorem dX6_walked_170 : decode cX6_walked 170 = .ok (.iadd, 1) := by decide +kernel
theorem dX6_walked_171 : decode cX6_walked 171 = .ok (.putfield 158, 3) := by decide +kernel
theorem dX6_walked_174 : decode cX6_walked 174 = .ok (.aload_n 0, 1) := by decide +kernel
theorem dX6_walked_175 : decode cX6_walked 175 = .ok (.dup, 1) := by decide +kernel
theorem dX6_walked_176 : decode cX6_walked 176 = .ok (.getfield 161, 3) := by decide +kernel
theorem dX6_walked_179 : decode cX6_walked 179 = .ok (.iload 6, 2) := by decide +kernel
theorem dX6_walked_181 : decode cX6_walked 181 = .ok (.ifCond .eq 7, 3) := by decide +kernel
theorem dX6_walked_184 : decode cX6_walked 184 = .ok (.iconst 1, 1) := by decide +kernel
theorem dX6_walked_185 : decode cX6_walked 185 = .ok (.goto 4, 3) := by decide +kernel
theorem dX6_walked_188 : decode cX6_walked 188 = .ok (.iconst 0, 1) := by decide +kernel
theorem dX6_walked_189 : decode cX6_walked 189 = .ok (.iadd, 1) := by decide +kernel
theorem dX6_walked_190 : decode cX6_walked 190 = .ok (.putfield 161, 3) := by decide +kernel
theorem dX6_walked_193 : decode cX6_walked 193 = .ok (.aload_n 0, 1) := by decide +kernel
theorem dX6_walked_194 : decode cX6_walked 194 = .ok (.dup, 1) := by decide +kernel
theorem dX6_walked_195 : decode cX6_walked 195 = .ok (.getfield 164, 3) := by decide +kernel
theorem dX6_walked_198 : decode cX6_walked 198 = .ok (.aload_n 0, 1) := by decide +kernel
theorem dX6_walked_199 : decode cX6_walked 199 = .ok (.getfield 149, 3) := by decide +kernel
theorem dX6_walked_202 : decode cX6_walked 202 = .ok (.iconst (-1), 1) := by decide +kernel
theorem dX6_walked_203 : decode cX6_walked 203 = .ok (.if_icmp .eq 12, 3) := by decide +kernel
theorem dX6_walked_206 : decode cX6_walked 206 = .ok (.iload 6, 2) := by decide +kernel
theorem dX6_walked_208 : decode cX6_walked 208 = .ok (.ifCond .ne 7, 3) := by decide +kernel
theorem dX6_walked_211 : decode cX6_walked 211 = .ok (.iconst 1, 1) := by decide +kernel
theorem dX6_walked_212 : decode cX6_walked 212 = .ok (.goto 4, 3) := by decide +kernel
theorem dX6_walked_215 : decode cX6_walked 215 = .ok (.iconst 0, 1) := by decide +kernel
theorem dX6_walked_216 : decode cX6_walked 216 = .ok (.iadd, 1) := by decide +kernel
theorem dX6_walked_217 : decode cX6_walked 217 = .ok (.putfield 164, 3) := by decide +kernel
theorem dX6_walked_220 : decode cX6_walked 220 = .ok (.aload_n 0, 1) := by decide +kernel
theorem dX6_walked_221 : decode cX6_walked 221 = .ok (.iload 5, 2) := by decide +kernel
theorem dX6_walked_223 : decode cX6_walked 223 = .ok (.invokevirtual 180, 3) := by decide +kernel
theorem dX6_walked_226 : decode cX6_walked 226 = .ok (.goto (-204), 3) := by decide +kernel
theorem dX6_walked_229 : decode cX6_walked 229 = .ok (.aload_n 0, 1) := by decide +kernel
theorem dX6_walked_230 : decode cX6_walked 230 = .ok (.invokevirtual 184, 3) := by decide +kernel
theorem dX6_walked_233 : decode cX6_walked 233 = .ok (.ireturn, 1) := by decide +kernel
theorem dX6_walks_0 : decode cX6_walks 0 = .ok (.aload_n 0, 1) := by decide +kernel
theorem dX6_walks_1 : decode cX6_walks 1 = .ok (.aload_n 0, 1) := by decide +kernel
theorem dX6_walks_2 : decode cX6_walks 2 = .ok (.iload_n 1, 1) := by decide +kernel
theorem dX6_walks_3 : decode cX6_walks 3 = .ok (.invokevirtual 187, 3) := by decide +kernel
theorem dX6_walks_6 : decode cX6_walks 6 = .ok (.putfield 75, 3) := by decide +kernel
theorem dX6_walks_9 : decode cX6_walks 9 = .ok (.aload_n 0, 1) := by decide +kernel
theorem dX6_walks_10 : decode cX6_walks 10 = .ok (.aload_n 0, 1) := by decide +kernel
theorem dX6_walks_11 : decode cX6_walks 11 = .ok (.getfield 158, 3) := by decide +kernel
theorem dX6_walks_14 : decode cX6_walks 14 = .ok (.putfield 78, 3) := by decide +kernel
theorem dX6_walks_17 : decode cX6_walks 17 = .ok (.aload_n 0, 1) := by decide +kernel
theorem dX6_walks_18 : decode cX6_walks 18 = .ok (.aload_n 0, 1) := by decide +kernel
theorem dX6_walks_19 : decode cX6_walks 19 = .ok (.getfield 161, 3) := by decide +kernel
theorem dX6_walks_22 : decode cX6_walks 22 = .ok (.putfield 81, 3) := by decide +kernel
theorem dX6_walks_25 : decode cX6_walks 25 = .ok (.aload_n 0, 1) := by decide +kernel
theorem dX6_walks_26 : decode cX6_walks 26 = .ok (.aload_n 0, 1) := by decide +kernel
theorem dX6_walks_27 : decode cX6_walks 27 = .ok (.getfield 164, 3) := by decide +kernel
theorem dX6_walks_30 : decode cX6_walks 30 = .ok (.putfield 84, 3) := by decide +kernel
theorem dX6_walks_33 : decode cX6_walks 33 = .ok (.iconst 0, 1) := by decide +kernel
theorem dX6_walks_34 : decode cX6_walks 34 = .ok (.istore_n 2, 1) := by decide +kernel
theorem dX6_walks_35 : decode cX6_walks 35 = .ok (.iload_n 2, 1) := by decide +kernel
theorem dX6_walks_36 : decode cX6_walks 36 = .ok (.iconst 3, 1) := by decide +kernel
theorem dX6_walks_37 : decode cX6_walks 37 = .ok (.aload_n 0, 1) := by decide +kernel
theorem dX6_walks_38 : decode cX6_walks 38 = .ok (.getfield 78, 3) := by decide +kernel
theorem dX6_walks_41 : decode cX6_walks 41 = .ok (.imul, 1) := by decide +kernel
theorem dX6_walks_42 : decode cX6_walks 42 = .ok (.if_icmp .ge 21, 3) := by decide +kernel
theorem dX6_walks_45 : decode cX6_walks 45 = .ok (.aload_n 0, 1) := by decide +kernel
theorem dX6_walks_46 : decode cX6_walks 46 = .ok (.getfield 19, 3) := by decide +kernel
theorem dX6_walks_49 : decode cX6_walks 49 = .ok (.iload_n 2, 1) := by decide +kernel
theorem dX6_walks_50 : decode cX6_walks 50 = .ok (.aload_n 0, 1) := by decide +kernel
theorem dX6_walks_51 : decode cX6_walks 51 = .ok (.getfield 22, 3) := by decide +kernel
theorem dX6_walks_54 : decode cX6_walks 54 = .ok (.iload_n 2, 1) := by decide +kernel
theorem dX6_walks_55 : decode cX6_walks 55 = .ok (.iaload, 1) := by decide +kernel
theorem dX6_walks_56 : decode cX6_walks 56 = .ok (.iastore, 1) := by decide +kernel
theorem dX6_walks_57 : decode cX6_walks 57 = .ok (.iinc 2 1, 3) := by decide +kernel
theorem dX6_walks_60 : decode cX6_walks 60 = .ok (.goto (-25), 3) := by decide +kernel
theorem dX6_walks_63 : decode cX6_walks 63 = .ok (.aload_n 0, 1) := by decide +kernel
theorem dX6_walks_64 : decode cX6_walks 64 = .ok (.getfield 75, 3) := by decide +kernel
theorem dX6_walks_67 : decode cX6_walks 67 = .ok (.invokestatic 190, 3) := by decide +kernel
theorem dX6_walks_70 : decode cX6_walks 70 = .ok (.ireturn, 1) := by decide +kernel
theorem dX6_isSeed_0 : decode cX6_isSeed 0 = .ok (.iload_n 0, 1) := by decide +kernel
theorem dX6_isSeed_1 : decode cX6_isSeed 1 = .ok (.i2l, 1) := by decide +kernel
theorem dX6_isSeed_2 : decode cX6_isSeed 2 = .ok (.lconst 0, 1) := by decide +kernel
theorem dX6_isSeed_3 : decode cX6_isSeed 3 = .ok (.ldc2_w 96, 3) := by decide +kernel
theorem dX6_isSeed_6 : decode cX6_isSeed 6 = .ok (.invokestatic 42, 3) := by decide +kernel
theorem dX6_isSeed_9 : decode cX6_isSeed 9 = .ok (.ireturn, 1) := by decide +kernel
theorem dX6_walk_0 : decode cX6_walk 0 = .ok (.iload_n 1, 1) := by decide +kernel
theorem dX6_walk_1 : decode cX6_walk 1 = .ok (.invokestatic 193, 3) := by decide +kernel
theorem dX6_walk_4 : decode cX6_walk 4 = .ok (.ifCond .eq 11, 3) := by decide +kernel
theorem dX6_walk_7 : decode cX6_walk 7 = .ok (.aload_n 0, 1) := by decide +kernel
theorem dX6_walk_8 : decode cX6_walk 8 = .ok (.iload_n 1, 1) := by decide +kernel
theorem dX6_walk_9 : decode cX6_walk 9 = .ok (.invokevirtual 196, 3) := by decide +kernel
theorem dX6_walk_12 : decode cX6_walk 12 = .ok (.goto 9, 3) := by decide +kernel
theorem dX6_walk_15 : decode cX6_walk 15 = .ok (.aload_n 0, 1) := by decide +kernel
theorem dX6_walk_16 : decode cX6_walk 16 = .ok (.bipush (-2), 2) := by decide +kernel
theorem dX6_walk_18 : decode cX6_walk 18 = .ok (.invokevirtual 50, 3) := by decide +kernel
theorem dX6_walk_21 : decode cX6_walk 21 = .ok (.ireturn, 1) := by decide +kernel
theorem dX6_wasOf_0 : decode cX6_wasOf 0 = .ok (.iload_n 1, 1) := by decide +kernel
theorem dX6_wasOf_1 : decode cX6_wasOf 1 = .ok (.ifCond .ne 10, 3) := by decide +kernel
theorem dX6_wasOf_4 : decode cX6_wasOf 4 = .ok (.aload_n 0, 1) := by decide +kernel
theorem dX6_wasOf_5 : decode cX6_wasOf 5 = .ok (.getfield 75, 3) := by decide +kernel
theorem dX6_wasOf_8 : decode cX6_wasOf 8 = .ok (.goto 31, 3) := by decide +kernel
theorem dX6_wasOf_11 : decode cX6_wasOf 11 = .ok (.iload_n 1, 1) := by decide +kernel
theorem dX6_wasOf_12 : decode cX6_wasOf 12 = .ok (.iconst 1, 1) := by decide +kernel
theorem dX6_wasOf_13 : decode cX6_wasOf 13 = .ok (.if_icmp .ne 10, 3) := by decide +kernel
theorem dX6_wasOf_16 : decode cX6_wasOf 16 = .ok (.aload_n 0, 1) := by decide +kernel
theorem dX6_wasOf_17 : decode cX6_wasOf 17 = .ok (.getfield 78, 3) := by decide +kernel
theorem dX6_wasOf_20 : decode cX6_wasOf 20 = .ok (.goto 19, 3) := by decide +kernel
theorem dX6_wasOf_23 : decode cX6_wasOf 23 = .ok (.iload_n 1, 1) := by decide +kernel
theorem dX6_wasOf_24 : decode cX6_wasOf 24 = .ok (.iconst 2, 1) := by decide +kernel
theorem dX6_wasOf_25 : decode cX6_wasOf 25 = .ok (.if_icmp .ne 10, 3) := by decide +kernel
theorem dX6_wasOf_28 : decode cX6_wasOf 28 = .ok (.aload_n 0, 1) := by decide +kernel
theorem dX6_wasOf_29 : decode cX6_wasOf 29 = .ok (.getfield 81, 3) := by decide +kernel
theorem dX6_wasOf_32 : decode cX6_wasOf 32 = .ok (.goto 7, 3) := by decide +kernel
theorem dX6_wasOf_35 : decode cX6_wasOf 35 = .ok (.aload_n 0, 1) := by decide +kernel
theorem dX6_wasOf_36 : decode cX6_wasOf 36 = .ok (.getfield 84, 3) := by decide +kernel
theorem dX6_wasOf_39 : decode cX6_wasOf 39 = .ok (.ireturn, 1) := by decide +kernel
theorem dX6_was_0 : decode cX6_was 0 = .ok (.iload_n 1, 1) := by decide +kernel
theorem dX6_was_1 : decode cX6_was 1 = .ok (.i2l, 1) := by decide +kernel
theorem dX6_was_2 : decode cX6_was 2 = .ok (.lconst 0, 1) := by decide +kernel
theorem dX6_was_3 : decode cX6_was 3 = .ok (.ldc2_w 126, 3) := by decide +kernel
theorem dX6_was_6 : decode cX6_was 6 = .ok (.invokestatic 42, 3) := by decide +kernel
theorem dX6_was_9 : decode cX6_was 9 = .ok (.ifCond .eq 11, 3) := by decide +kernel
theorem dX6_was_12 : decode cX6_was 12 = .ok (.aload_n 0, 1) := by decide +kernel
theorem dX6_was_13 : decode cX6_was 13 = .ok (.iload_n 1, 1) := by decide +kernel
theorem dX6_was_14 : decode cX6_was 14 = .ok (.invokevirtual 199, 3) := by decide +kernel
theorem dX6_was_17 : decode cX6_was 17 = .ok (.goto 9, 3) := by decide +kernel
theorem dX6_was_20 : decode cX6_was 20 = .ok (.aload_n 0, 1) := by decide +kernel
theorem dX6_was_21 : decode cX6_was 21 = .ok (.bipush (-2), 2) := by decide +kernel
theorem dX6_was_23 : decode cX6_was 23 = .ok (.invokevirtual 50, 3) := by decide +kernel
theorem dX6_was_26 : decode cX6_was 26 = .ok (.ireturn, 1) := by decide +kernel
theorem dX6_play_0 : decode cX6_play 0 = .ok (.iload_n 1, 1) := by decide +kernel
theorem dX6_play_1 : decode cX6_play 1 = .ok (.ifCond .lt 15, 3) := by decide +kernel
theorem dX6_play_4 : decode cX6_play 4 = .ok (.iload_n 2, 1) := by decide +kernel
theorem dX6_play_5 : decode cX6_play 5 = .ok (.i2l, 1) := by decide +kernel
theorem dX6_play_6 : decode cX6_play 6 = .ok (.lconst 0, 1) := by decide +kernel
theorem dX6_play_7 : decode cX6_play 7 = .ok (.ldc2_w 202, 3) := by decide +kernel
theorem dX6_play_10 : decode cX6_play 10 = .ok (.invokestatic 42, 3) := by decide +kernel
theorem dX6_play_13 : decode cX6_play 13 = .ok (.ifCond .ne 10, 3) := by decide +kernel
theorem dX6_play_16 : decode cX6_play 16 = .ok (.aload_n 0, 1) := by decide +kernel
theorem dX6_play_17 : decode cX6_play 17 = .ok (.bipush (-2), 2) := by decide +kernel
theorem dX6_play_19 : decode cX6_play 19 = .ok (.invokevirtual 50, 3) := by decide +kernel
theorem dX6_play_22 : decode cX6_play 22 = .ok (.ireturn, 1) := by decide +kernel
theorem dX6_play_23 : decode cX6_play 23 = .ok (.iload_n 1, 1) := by decide +kernel
theorem dX6_play_24 : decode cX6_play 24 = .ok (.aload_n 0, 1) := by decide +kernel
theorem dX6_play_25 : decode cX6_play 25 = .ok (.getfield 78, 3) := by decide +kernel
theorem dX6_play_28 : decode cX6_play 28 = .ok (.if_icmp .ge 16, 3) := by decide +kernel
theorem dX6_play_31 : decode cX6_play 31 = .ok (.aload_n 0, 1) := by decide +kernel
theorem dX6_play_32 : decode cX6_play 32 = .ok (.getfield 19, 3) := by decide +kernel
theorem dX6_play_35 : decode cX6_play 35 = .ok (.iconst 3, 1) := by decide +kernel
theorem dX6_play_36 : decode cX6_play 36 = .ok (.iload_n 1, 1) := by decide +kernel
theorem dX6_play_37 : decode cX6_play 37 = .ok (.imul, 1) := by decide +kernel
theorem dX6_play_38 : decode cX6_play 38 = .ok (.iload_n 2, 1) := by decide +kernel
theorem dX6_play_39 : decode cX6_play 39 = .ok (.iadd, 1) := by decide +kernel
theorem dX6_play_40 : decode cX6_play 40 = .ok (.iaload, 1) := by decide +kernel
theorem dX6_play_41 : decode cX6_play 41 = .ok (.goto 4, 3) := by decide +kernel
theorem dX6_play_44 : decode cX6_play 44 = .ok (.iconst (-1), 1) := by decide +kernel
theorem dX6_play_45 : decode cX6_play 45 = .ok (.ireturn, 1) := by decide +kernel
theorem dX6_countedUp_0 : decode cX6_countedUp 0 = .ok (.lconst 0, 1) := by decide +kernel
theorem dX6_countedUp_1 : decode cX6_countedUp 1 = .ok (.lstore_n 3, 1) := by decide +kernel
theorem dX6_countedUp_2 : decode cX6_countedUp 2 = .ok (.iconst 0, 1) := by decide +kernel
theorem dX6_countedUp_3 : decode cX6_countedUp 3 = .ok (.istore 5, 2) := by decide +kernel
theorem dX6_countedUp_5 : decode cX6_countedUp 5 = .ok (.iload 5, 2) := by decide +kernel
theorem dX6_countedUp_7 : decode cX6_countedUp 7 = .ok (.aload_n 0, 1) := by decide +kernel
theorem dX6_countedUp_8 : decode cX6_countedUp 8 = .ok (.getfield 38, 3) := by decide +kernel
theorem dX6_countedUp_11 : decode cX6_countedUp 11 = .ok (.if_icmp .ge 67, 3) := by decide +kernel
theorem dX6_countedUp_14 : decode cX6_countedUp 14 = .ok (.iload_n 1, 1) := by decide +kernel
theorem dX6_countedUp_15 : decode cX6_countedUp 15 = .ok (.iload 5, 2) := by decide +kernel
theorem dX6_countedUp_17 : decode cX6_countedUp 17 = .ok (.invokestatic 120, 3) := by decide +kernel
theorem dX6_countedUp_20 : decode cX6_countedUp 20 = .ok (.ifCond .eq 17, 3) := by decide +kernel
theorem dX6_countedUp_23 : decode cX6_countedUp 23 = .ok (.aload_n 0, 1) := by decide +kernel
theorem dX6_countedUp_24 : decode cX6_countedUp 24 = .ok (.iload 5, 2) := by decide +kernel
theorem dX6_countedUp_26 : decode cX6_countedUp 26 = .ok (.iconst 0, 1) := by decide +kernel
theorem dX6_countedUp_27 : decode cX6_countedUp 27 = .ok (.invokevirtual 61, 3) := by decide +kernel
theorem dX6_countedUp_30 : decode cX6_countedUp 30 = .ok (.ifCond .le 7, 3) := by decide +kernel
theorem dX6_countedUp_33 : decode cX6_countedUp 33 = .ok (.iconst 1, 1) := by decide +kernel
theorem dX6_countedUp_34 : decode cX6_countedUp 34 = .ok (.goto 4, 3) := by decide +kernel
theorem dX6_countedUp_37 : decode cX6_countedUp 37 = .ok (.iconst 0, 1) := by decide +kernel
theorem dX6_countedUp_38 : decode cX6_countedUp 38 = .ok (.istore 6, 2) := by decide +kernel
theorem dX6_countedUp_40 : decode cX6_countedUp 40 = .ok (.lload_n 3, 1) := by decide +kernel
theorem dX6_countedUp_41 : decode cX6_countedUp 41 = .ok (.iload 6, 2) := by decide +kernel
theorem dX6_countedUp_43 : decode cX6_countedUp 43 = .ok (.ifCond .eq 26, 3) := by decide +kernel
theorem dX6_countedUp_46 : decode cX6_countedUp 46 = .ok (.aload_n 0, 1) := by decide +kernel
theorem dX6_countedUp_47 : decode cX6_countedUp 47 = .ok (.iload 5, 2) := by decide +kernel
theorem dX6_countedUp_49 : decode cX6_countedUp 49 = .ok (.iload_n 2, 1) := by decide +kernel
theorem dX6_countedUp_50 : decode cX6_countedUp 50 = .ok (.invokevirtual 61, 3) := by decide +kernel
theorem dX6_countedUp_53 : decode cX6_countedUp 53 = .ok (.i2l, 1) := by decide +kernel
theorem dX6_countedUp_54 : decode cX6_countedUp 54 = .ok (.ldc 204, 2) := by decide +kernel
theorem dX6_countedUp_56 : decode cX6_countedUp 56 = .ok (.aload_n 0, 1) := by decide +kernel
theorem dX6_countedUp_57 : decode cX6_countedUp 57 = .ok (.iload 5, 2) := by decide +kernel
theorem dX6_countedUp_59 : decode cX6_countedUp 59 = .ok (.iconst 0, 1) := by decide +kernel
theorem dX6_countedUp_60 : decode cX6_countedUp 60 = .ok (.invokevirtual 61, 3) := by decide +kernel
theorem dX6_countedUp_63 : decode cX6_countedUp 63 = .ok (.idiv, 1) := by decide +kernel
theorem dX6_countedUp_64 : decode cX6_countedUp 64 = .ok (.i2l, 1) := by decide +kernel
theorem dX6_countedUp_65 : decode cX6_countedUp 65 = .ok (.lmul, 1) := by decide +kernel
theorem dX6_countedUp_66 : decode cX6_countedUp 66 = .ok (.goto 4, 3) := by decide +kernel
theorem dX6_countedUp_69 : decode cX6_countedUp 69 = .ok (.lconst 0, 1) := by decide +kernel
theorem dX6_countedUp_70 : decode cX6_countedUp 70 = .ok (.ladd, 1) := by decide +kernel
theorem dX6_countedUp_71 : decode cX6_countedUp 71 = .ok (.lstore_n 3, 1) := by decide +kernel
theorem dX6_countedUp_72 : decode cX6_countedUp 72 = .ok (.iinc 5 1, 3) := by decide +kernel
theorem dX6_countedUp_75 : decode cX6_countedUp 75 = .ok (.goto (-70), 3) := by decide +kernel
theorem dX6_countedUp_78 : decode cX6_countedUp 78 = .ok (.lload_n 3, 1) := by decide +kernel
theorem dX6_countedUp_79 : decode cX6_countedUp 79 = .ok (.lreturn, 1) := by decide +kernel
theorem dX6_missOf_0 : decode cX6_missOf 0 = .ok (.aload_n 0, 1) := by decide +kernel
theorem dX6_missOf_1 : decode cX6_missOf 1 = .ok (.iload_n 1, 1) := by decide +kernel
theorem dX6_missOf_2 : decode cX6_missOf 2 = .ok (.iconst 3, 1) := by decide +kernel
theorem dX6_missOf_3 : decode cX6_missOf 3 = .ok (.invokevirtual 205, 3) := by decide +kernel
theorem dX6_missOf_6 : decode cX6_missOf 6 = .ok (.ldc2_w 209, 3) := by decide +kernel
theorem dX6_missOf_9 : decode cX6_missOf 9 = .ok (.aload_n 0, 1) := by decide +kernel
theorem dX6_missOf_10 : decode cX6_missOf 10 = .ok (.iconst 3, 1) := by decide +kernel
theorem dX6_missOf_11 : decode cX6_missOf 11 = .ok (.invokevirtual 128, 3) := by decide +kernel
theorem dX6_missOf_14 : decode cX6_missOf 14 = .ok (.i2l, 1) := by decide +kernel
theorem dX6_missOf_15 : decode cX6_missOf 15 = .ok (.lmul, 1) := by decide +kernel
theorem dX6_missOf_16 : decode cX6_missOf 16 = .ok (.lsub, 1) := by decide +kernel
theorem dX6_missOf_17 : decode cX6_missOf 17 = .ok (.lstore_n 2, 1) := by decide +kernel
theorem dX6_missOf_18 : decode cX6_missOf 18 = .ok (.lload_n 2, 1) := by decide +kernel
theorem dX6_missOf_19 : decode cX6_missOf 19 = .ok (.lconst 0, 1) := by decide +kernel
theorem dX6_missOf_20 : decode cX6_missOf 20 = .ok (.lcmp, 1) := by decide +kernel
theorem dX6_missOf_21 : decode cX6_missOf 21 = .ok (.ifCond .ge 8, 3) := by decide +kernel
theorem dX6_missOf_24 : decode cX6_missOf 24 = .ok (.lload_n 2, 1) := by decide +kernel
theorem dX6_missOf_25 : decode cX6_missOf 25 = .ok (.lneg, 1) := by decide +kernel
theorem dX6_missOf_26 : decode cX6_missOf 26 = .ok (.goto 4, 3) := by decide +kernel
theorem dX6_missOf_29 : decode cX6_missOf 29 = .ok (.lload_n 2, 1) := by decide +kernel
theorem dX6_missOf_30 : decode cX6_missOf 30 = .ok (.lreturn, 1) := by decide +kernel
theorem dX6_counted_0 : decode cX6_counted 0 = .ok (.iload_n 1, 1) := by decide +kernel
theorem dX6_counted_1 : decode cX6_counted 1 = .ok (.i2l, 1) := by decide +kernel
theorem dX6_counted_2 : decode cX6_counted 2 = .ok (.lconst 0, 1) := by decide +kernel
theorem dX6_counted_3 : decode cX6_counted 3 = .ok (.ldc2_w 202, 3) := by decide +kernel
theorem dX6_counted_6 : decode cX6_counted 6 = .ok (.invokestatic 42, 3) := by decide +kernel
theorem dX6_counted_9 : decode cX6_counted 9 = .ok (.ifCond .ne 11, 3) := by decide +kernel
theorem dX6_counted_12 : decode cX6_counted 12 = .ok (.aload_n 0, 1) := by decide +kernel
theorem dX6_counted_13 : decode cX6_counted 13 = .ok (.bipush (-2), 2) := by decide +kernel
theorem dX6_counted_15 : decode cX6_counted 15 = .ok (.invokevirtual 50, 3) := by decide +kernel
theorem dX6_counted_18 : decode cX6_counted 18 = .ok (.i2l, 1) := by decide +kernel
theorem dX6_counted_19 : decode cX6_counted 19 = .ok (.lreturn, 1) := by decide +kernel
theorem dX6_counted_20 : decode cX6_counted 20 = .ok (.iload_n 1, 1) := by decide +kernel
theorem dX6_counted_21 : decode cX6_counted 21 = .ok (.ifCond .ne 15, 3) := by decide +kernel
theorem dX6_counted_24 : decode cX6_counted 24 = .ok (.aload_n 0, 1) := by decide +kernel
theorem dX6_counted_25 : decode cX6_counted 25 = .ok (.aload_n 0, 1) := by decide +kernel
theorem dX6_counted_26 : decode cX6_counted 26 = .ok (.getfield 75, 3) := by decide +kernel
theorem dX6_counted_29 : decode cX6_counted 29 = .ok (.iconst 4, 1) := by decide +kernel
theorem dX6_counted_30 : decode cX6_counted 30 = .ok (.invokevirtual 205, 3) := by decide +kernel
theorem dX6_counted_33 : decode cX6_counted 33 = .ok (.goto 28, 3) := by decide +kernel
theorem dX6_counted_36 : decode cX6_counted 36 = .ok (.iload_n 1, 1) := by decide +kernel
theorem dX6_counted_37 : decode cX6_counted 37 = .ok (.iconst 1, 1) := by decide +kernel
theorem dX6_counted_38 : decode cX6_counted 38 = .ok (.if_icmp .ne 15, 3) := by decide +kernel
theorem dX6_counted_41 : decode cX6_counted 41 = .ok (.aload_n 0, 1) := by decide +kernel
theorem dX6_counted_42 : decode cX6_counted 42 = .ok (.aload_n 0, 1) := by decide +kernel
theorem dX6_counted_43 : decode cX6_counted 43 = .ok (.getfield 75, 3) := by decide +kernel
theorem dX6_counted_46 : decode cX6_counted 46 = .ok (.iconst 3, 1) := by decide +kernel
theorem dX6_counted_47 : decode cX6_counted 47 = .ok (.invokevirtual 205, 3) := by decide +kernel
theorem dX6_counted_50 : decode cX6_counted 50 = .ok (.goto 11, 3) := by decide +kernel
theorem dX6_counted_53 : decode cX6_counted 53 = .ok (.aload_n 0, 1) := by decide +kernel
theorem dX6_counted_54 : decode cX6_counted 54 = .ok (.aload_n 0, 1) := by decide +kernel
theorem dX6_counted_55 : decode cX6_counted 55 = .ok (.getfield 75, 3) := by decide +kernel
theorem dX6_counted_58 : decode cX6_counted 58 = .ok (.invokevirtual 211, 3) := by decide +kernel
theorem dX6_counted_61 : decode cX6_counted 61 = .ok (.lreturn, 1) := by decide +kernel
theorem dX6_inside_0 : decode cX6_inside 0 = .ok (.iload_n 1, 1) := by decide +kernel
theorem dX6_inside_1 : decode cX6_inside 1 = .ok (.i2l, 1) := by decide +kernel
theorem dX6_inside_2 : decode cX6_inside 2 = .ok (.lconst 0, 1) := by decide +kernel
theorem dX6_inside_3 : decode cX6_inside 3 = .ok (.ldc2_w 126, 3) := by decide +kernel
theorem dX6_inside_6 : decode cX6_inside 6 = .ok (.invokestatic 42, 3) := by decide +kernel
theorem dX6_inside_9 : decode cX6_inside 9 = .ok (.ifCond .ne 10, 3) := by decide +kernel
theorem dX6_inside_12 : decode cX6_inside 12 = .ok (.aload_n 0, 1) := by decide +kernel
theorem dX6_inside_13 : decode cX6_inside 13 = .ok (.bipush (-2), 2) := by decide +kernel
theorem dX6_inside_15 : decode cX6_inside 15 = .ok (.invokevirtual 50, 3) := by decide +kernel
theorem dX6_inside_18 : decode cX6_inside 18 = .ok (.ireturn, 1) := by decide +kernel
theorem dX6_inside_19 : decode cX6_inside 19 = .ok (.iconst 0, 1) := by decide +kernel
theorem dX6_inside_20 : decode cX6_inside 20 = .ok (.istore_n 2, 1) := by decide +kernel
theorem dX6_inside_21 : decode cX6_inside 21 = .ok (.iconst 0, 1) := by decide +kernel
theorem dX6_inside_22 : decode cX6_inside 22 = .ok (.istore_n 3, 1) := by decide +kernel
theorem dX6_inside_23 : decode cX6_inside 23 = .ok (.iload_n 3, 1) := by decide +kernel
theorem dX6_inside_24 : decode cX6_inside 24 = .ok (.aload_n 0, 1) := by decide +kernel
theorem dX6_inside_25 : decode cX6_inside 25 = .ok (.getfield 38, 3) := by decide +kernel
theorem dX6_inside_28 : decode cX6_inside 28 = .ok (.if_icmp .ge 38, 3) := by decide +kernel
theorem dX6_inside_31 : decode cX6_inside 31 = .ok (.iload_n 2, 1) := by decide +kernel
theorem dX6_inside_32 : decode cX6_inside 32 = .ok (.aload_n 0, 1) := by decide +kernel
theorem dX6_inside_33 : decode cX6_inside 33 = .ok (.getfield 75, 3) := by decide +kernel
theorem dX6_inside_36 : decode cX6_inside 36 = .ok (.iload_n 3, 1) := by decide +kernel
theorem dX6_inside_37 : decode cX6_inside 37 = .ok (.invokestatic 120, 3) := by decide +kernel
theorem dX6_inside_40 : decode cX6_inside 40 = .ok (.ifCond .eq 17, 3) := by decide +kernel
theorem dX6_inside_43 : decode cX6_inside 43 = .ok (.aload_n 0, 1) := by decide +kernel
theorem dX6_inside_44 : decode cX6_inside 44 = .ok (.iload_n 3, 1) := by decide +kernel
theorem dX6_inside_45 : decode cX6_inside 45 = .ok (.iconst 2, 1) := by decide +kernel
theorem dX6_inside_46 : decode cX6_inside 46 = .ok (.invokevirtual 61, 3) := by decide +kernel
theorem dX6_inside_49 : decode cX6_inside 49 = .ok (.iload_n 1, 1) := by decide +kernel
theorem dX6_inside_50 : decode cX6_inside 50 = .ok (.if_icmp .ne 7, 3) := by decide +kernel
theorem dX6_inside_53 : decode cX6_inside 53 = .ok (.iconst 1, 1) := by decide +kernel
theorem dX6_inside_54 : decode cX6_inside 54 = .ok (.goto 4, 3) := by decide +kernel
theorem dX6_inside_57 : decode cX6_inside 57 = .ok (.iconst 0, 1) := by decide +kernel
theorem dX6_inside_58 : decode cX6_inside 58 = .ok (.iadd, 1) := by decide +kernel
theorem dX6_inside_59 : decode cX6_inside 59 = .ok (.istore_n 2, 1) := by decide +kernel
theorem dX6_inside_60 : decode cX6_inside 60 = .ok (.iinc 3 1, 3) := by decide +kernel
theorem dX6_inside_63 : decode cX6_inside 63 = .ok (.goto (-40), 3) := by decide +kernel
theorem dX6_inside_66 : decode cX6_inside 66 = .ok (.iload_n 2, 1) := by decide +kernel
theorem dX6_inside_67 : decode cX6_inside 67 = .ok (.ireturn, 1) := by decide +kernel
theorem dX6_spread_0 : decode cX6_spread 0 = .ok (.iconst (-1), 1) := by decide +kernel
theorem dX6_spread_1 : decode cX6_spread 1 = .ok (.istore_n 1, 1) := by decide +kernel
theorem dX6_spread_2 : decode cX6_spread 2 = .ok (.iconst 0, 1) := by decide +kernel
theorem dX6_spread_3 : decode cX6_spread 3 = .ok (.istore_n 2, 1) := by decide +kernel
theorem dX6_spread_4 : decode cX6_spread 4 = .ok (.iload_n 2, 1) := by decide +kernel
theorem dX6_spread_5 : decode cX6_spread 5 = .ok (.aload_n 0, 1) := by decide +kernel
theorem dX6_spread_6 : decode cX6_spread 6 = .ok (.getfield 38, 3) := by decide +kernel
theorem dX6_spread_9 : decode cX6_spread 9 = .ok (.if_icmp .ge 91, 3) := by decide +kernel
theorem dX6_spread_12 : decode cX6_spread 12 = .ok (.iconst 0, 1) := by decide +kernel
theorem dX6_spread_13 : decode cX6_spread 13 = .ok (.istore_n 3, 1) := by decide +kernel
theorem dX6_spread_14 : decode cX6_spread 14 = .ok (.iload_n 3, 1) := by decide +kernel
theorem dX6_spread_15 : decode cX6_spread 15 = .ok (.iload_n 2, 1) := by decide +kernel
theorem dX6_spread_16 : decode cX6_spread 16 = .ok (.if_icmp .ge 78, 3) := by decide +kernel
theorem dX6_spread_19 : decode cX6_spread 19 = .ok (.aload_n 0, 1) := by decide +kernel
theorem dX6_spread_20 : decode cX6_spread 20 = .ok (.iload_n 2, 1) := by decide +kernel
theorem dX6_spread_21 : decode cX6_spread 21 = .ok (.iconst 1, 1) := by decide +kernel
theorem dX6_spread_22 : decode cX6_spread 22 = .ok (.invokevirtual 61, 3) := by decide +kernel
theorem dX6_spread_25 : decode cX6_spread 25 = .ok (.aload_n 0, 1) := by decide +kernel
theorem dX6_spread_26 : decode cX6_spread 26 = .ok (.iload_n 3, 1) := by decide +kernel
theorem dX6_spread_27 : decode cX6_spread 27 = .ok (.iconst 1, 1) := by decide +kernel
theorem dX6_spread_28 : decode cX6_spread 28 = .ok (.invokevirtual 61, 3) := by decide +kernel
theorem dX6_spread_31 : decode cX6_spread 31 = .ok (.invokestatic 140, 3) := by decide +kernel
theorem dX6_spread_34 : decode cX6_spread 34 = .ok (.istore 4, 2) := by decide +kernel
theorem dX6_spread_36 : decode cX6_spread 36 = .ok (.aload_n 0, 1) := by decide +kernel
theorem dX6_spread_37 : decode cX6_spread 37 = .ok (.getfield 75, 3) := by decide +kernel
theorem dX6_spread_40 : decode cX6_spread 40 = .ok (.iload_n 2, 1) := by decide +kernel
theorem dX6_spread_41 : decode cX6_spread 41 = .ok (.invokestatic 120, 3) := by decide +kernel
theorem dX6_spread_44 : decode cX6_spread 44 = .ok (.ifCond .eq 29, 3) := by decide +kernel
theorem dX6_spread_47 : decode cX6_spread 47 = .ok (.aload_n 0, 1) := by decide +kernel
theorem dX6_spread_48 : decode cX6_spread 48 = .ok (.getfield 75, 3) := by decide +kernel
theorem dX6_spread_51 : decode cX6_spread 51 = .ok (.iload_n 3, 1) := by decide +kernel
theorem dX6_spread_52 : decode cX6_spread 52 = .ok (.invokestatic 120, 3) := by decide +kernel
theorem dX6_spread_55 : decode cX6_spread 55 = .ok (.ifCond .eq 18, 3) := by decide +kernel
theorem dX6_spread_58 : decode cX6_spread 58 = .ok (.iload_n 1, 1) := by decide +kernel
theorem dX6_spread_59 : decode cX6_spread 59 = .ok (.iconst (-1), 1) := by decide +kernel
theorem dX6_spread_60 : decode cX6_spread 60 = .ok (.if_icmp .eq 9, 3) := by decide +kernel
theorem dX6_spread_63 : decode cX6_spread 63 = .ok (.iload 4, 2) := by decide +kernel
theorem dX6_spread_65 : decode cX6_spread 65 = .ok (.iload_n 1, 1) := by decide +kernel
theorem dX6_spread_66 : decode cX6_spread 66 = .ok (.if_icmp .ge 7, 3) := by decide +kernel
theorem dX6_spread_69 : decode cX6_spread 69 = .ok (.iconst 1, 1) := by decide +kernel
theorem dX6_spread_70 : decode cX6_spread 70 = .ok (.goto 4, 3) := by decide +kernel
theorem dX6_spread_73 : decode cX6_spread 73 = .ok (.iconst 0, 1) := by decide +kernel
theorem dX6_spread_74 : decode cX6_spread 74 = .ok (.istore 5, 2) := by decide +kernel
theorem dX6_spread_76 : decode cX6_spread 76 = .ok (.iload 5, 2) := by decide +kernel
theorem dX6_spread_78 : decode cX6_spread 78 = .ok (.ifCond .eq 8, 3) := by decide +kernel
theorem dX6_spread_81 : decode cX6_spread 81 = .ok (.iload 4, 2) := by decide +kernel
theorem dX6_spread_83 : decode cX6_spread 83 = .ok (.goto 4, 3) := by decide +kernel
theorem dX6_spread_86 : decode cX6_spread 86 = .ok (.iload_n 1, 1) := by decide +kernel
theorem dX6_spread_87 : decode cX6_spread 87 = .ok (.istore_n 1, 1) := by decide +kernel
theorem dX6_spread_88 : decode cX6_spread 88 = .ok (.iinc 3 1, 3) := by decide +kernel
theorem dX6_spread_91 : decode cX6_spread 91 = .ok (.goto (-77), 3) := by decide +kernel
theorem dX6_spread_94 : decode cX6_spread 94 = .ok (.iinc 2 1, 3) := by decide +kernel
theorem dX6_spread_97 : decode cX6_spread 97 = .ok (.goto (-93), 3) := by decide +kernel
theorem dX6_spread_100 : decode cX6_spread 100 = .ok (.iload_n 1, 1) := by decide +kernel
theorem dX6_spread_101 : decode cX6_spread 101 = .ok (.ireturn, 1) := by decide +kernel
theorem dX6_areSeeds_0 : decode cX6_areSeeds 0 = .ok (.iload_n 0, 1) := by decide +kernel
theorem dX6_areSeeds_1 : decode cX6_areSeeds 1 = .ok (.invokestatic 193, 3) := by decide +kernel
theorem dX6_areSeeds_4 : decode cX6_areSeeds 4 = .ok (.ifCond .eq 27, 3) := by decide +kernel
theorem dX6_areSeeds_7 : decode cX6_areSeeds 7 = .ok (.iload_n 1, 1) := by decide +kernel
theorem dX6_areSeeds_8 : decode cX6_areSeeds 8 = .ok (.i2l, 1) := by decide +kernel
theorem dX6_areSeeds_9 : decode cX6_areSeeds 9 = .ok (.lconst 1, 1) := by decide +kernel
theorem dX6_areSeeds_10 : decode cX6_areSeeds 10 = .ok (.ldc2_w 215, 3) := by decide +kernel
theorem dX6_areSeeds_13 : decode cX6_areSeeds 13 = .ok (.invokestatic 42, 3) := by decide +kernel
theorem dX6_areSeeds_16 : decode cX6_areSeeds 16 = .ok (.ifCond .eq 15, 3) := by decide +kernel
theorem dX6_areSeeds_19 : decode cX6_areSeeds 19 = .ok (.iload_n 0, 1) := by decide +kernel
theorem dX6_areSeeds_20 : decode cX6_areSeeds 20 = .ok (.iload_n 1, 1) := by decide +kernel
theorem dX6_areSeeds_21 : decode cX6_areSeeds 21 = .ok (.iadd, 1) := by decide +kernel
theorem dX6_areSeeds_22 : decode cX6_areSeeds 22 = .ok (.ldc 217, 2) := by decide +kernel
theorem dX6_areSeeds_24 : decode cX6_areSeeds 24 = .ok (.if_icmp .gt 7, 3) := by decide +kernel
theorem dX6_areSeeds_27 : decode cX6_areSeeds 27 = .ok (.iconst 1, 1) := by decide +kernel
theorem dX6_areSeeds_28 : decode cX6_areSeeds 28 = .ok (.goto 4, 3) := by decide +kernel
theorem dX6_areSeeds_31 : decode cX6_areSeeds 31 = .ok (.iconst 0, 1) := by decide +kernel
theorem dX6_areSeeds_32 : decode cX6_areSeeds 32 = .ok (.ireturn, 1) := by decide +kernel
theorem dX6_howOften_0 : decode cX6_howOften 0 = .ok (.iconst 0, 1) := by decide +kernel
theorem dX6_howOften_1 : decode cX6_howOften 1 = .ok (.istore 4, 2) := by decide +kernel
theorem dX6_howOften_3 : decode cX6_howOften 3 = .ok (.iconst 0, 1) := by decide +kernel
theorem dX6_howOften_4 : decode cX6_howOften 4 = .ok (.istore 5, 2) := by decide +kernel
theorem dX6_howOften_6 : decode cX6_howOften 6 = .ok (.iload 5, 2) := by decide +kernel
theorem dX6_howOften_8 : decode cX6_howOften 8 = .ok (.iload_n 3, 1) := by decide +kernel
theorem dX6_howOften_9 : decode cX6_howOften 9 = .ok (.if_icmp .ge 33, 3) := by decide +kernel
theorem dX6_howOften_12 : decode cX6_howOften 12 = .ok (.iload 4, 2) := by decide +kernel
theorem dX6_howOften_14 : decode cX6_howOften 14 = .ok (.aload_n 0, 1) := by decide +kernel
theorem dX6_howOften_15 : decode cX6_howOften 15 = .ok (.iload_n 2, 1) := by decide +kernel
theorem dX6_howOften_16 : decode cX6_howOften 16 = .ok (.iload 5, 2) := by decide +kernel
theorem dX6_howOften_18 : decode cX6_howOften 18 = .ok (.iadd, 1) := by decide +kernel
theorem dX6_howOften_19 : decode cX6_howOften 19 = .ok (.invokevirtual 187, 3) := by decide +kernel
theorem dX6_howOften_22 : decode cX6_howOften 22 = .ok (.iload_n 1, 1) := by decide +kernel
theorem dX6_howOften_23 : decode cX6_howOften 23 = .ok (.iand, 1) := by decide +kernel
theorem dX6_howOften_24 : decode cX6_howOften 24 = .ok (.iload_n 1, 1) := by decide +kernel
theorem dX6_howOften_25 : decode cX6_howOften 25 = .ok (.if_icmp .ne 7, 3) := by decide +kernel
theorem dX6_howOften_28 : decode cX6_howOften 28 = .ok (.iconst 1, 1) := by decide +kernel
theorem dX6_howOften_29 : decode cX6_howOften 29 = .ok (.goto 4, 3) := by decide +kernel
theorem dX6_howOften_32 : decode cX6_howOften 32 = .ok (.iconst 0, 1) := by decide +kernel
theorem dX6_howOften_33 : decode cX6_howOften 33 = .ok (.iadd, 1) := by decide +kernel
theorem dX6_howOften_34 : decode cX6_howOften 34 = .ok (.istore 4, 2) := by decide +kernel
theorem dX6_howOften_36 : decode cX6_howOften 36 = .ok (.iinc 5 1, 3) := by decide +kernel
theorem dX6_howOften_39 : decode cX6_howOften 39 = .ok (.goto (-33), 3) := by decide +kernel
theorem dX6_howOften_42 : decode cX6_howOften 42 = .ok (.iload 4, 2) := by decide +kernel
theorem dX6_howOften_44 : decode cX6_howOften 44 = .ok (.ireturn, 1) := by decide +kernel
theorem dX6_both_0 : decode cX6_both 0 = .ok (.aload_n 0, 1) := by decide +kernel
theorem dX6_both_1 : decode cX6_both 1 = .ok (.iload_n 1, 1) := by decide +kernel
theorem dX6_both_2 : decode cX6_both 2 = .ok (.invokevirtual 65, 3) := by decide +kernel
theorem dX6_both_5 : decode cX6_both 5 = .ok (.ifCond .eq 25, 3) := by decide +kernel
theorem dX6_both_8 : decode cX6_both 8 = .ok (.aload_n 0, 1) := by decide +kernel
theorem dX6_both_9 : decode cX6_both 9 = .ok (.iload_n 2, 1) := by decide +kernel
theorem dX6_both_10 : decode cX6_both 10 = .ok (.invokevirtual 65, 3) := by decide +kernel
theorem dX6_both_13 : decode cX6_both 13 = .ok (.ifCond .eq 17, 3) := by decide +kernel
theorem dX6_both_16 : decode cX6_both 16 = .ok (.iload_n 1, 1) := by decide +kernel
theorem dX6_both_17 : decode cX6_both 17 = .ok (.iload_n 2, 1) := by decide +kernel
theorem dX6_both_18 : decode cX6_both 18 = .ok (.if_icmp .eq 12, 3) := by decide +kernel
theorem dX6_both_21 : decode cX6_both 21 = .ok (.iload_n 3, 1) := by decide +kernel
theorem dX6_both_22 : decode cX6_both 22 = .ok (.iload 4, 2) := by decide +kernel
theorem dX6_both_24 : decode cX6_both 24 = .ok (.invokestatic 218, 3) := by decide +kernel
theorem dX6_both_27 : decode cX6_both 27 = .ok (.ifCond .ne 10, 3) := by decide +kernel
theorem dX6_both_30 : decode cX6_both 30 = .ok (.aload_n 0, 1) := by decide +kernel
theorem dX6_both_31 : decode cX6_both 31 = .ok (.bipush (-2), 2) := by decide +kernel
theorem dX6_both_33 : decode cX6_both 33 = .ok (.invokevirtual 50, 3) := by decide +kernel
theorem dX6_both_36 : decode cX6_both 36 = .ok (.ireturn, 1) := by decide +kernel
theorem dX6_both_37 : decode cX6_both 37 = .ok (.aload_n 0, 1) := by decide +kernel
theorem dX6_both_38 : decode cX6_both 38 = .ok (.iconst 1, 1) := by decide +kernel
theorem dX6_both_39 : decode cX6_both 39 = .ok (.iload_n 1, 1) := by decide +kernel
theorem dX6_both_40 : decode cX6_both 40 = .ok (.ishl, 1) := by decide +kernel
theorem dX6_both_41 : decode cX6_both 41 = .ok (.iconst 1, 1) := by decide +kernel
theorem dX6_both_42 : decode cX6_both 42 = .ok (.iload_n 2, 1) := by decide +kernel
theorem dX6_both_43 : decode cX6_both 43 = .ok (.ishl, 1) := by decide +kernel
theorem dX6_both_44 : decode cX6_both 44 = .ok (.ior, 1) := by decide +kernel
theorem dX6_both_45 : decode cX6_both 45 = .ok (.iload_n 3, 1) := by decide +kernel
theorem dX6_both_46 : decode cX6_both 46 = .ok (.iload 4, 2) := by decide +kernel
theorem dX6_both_48 : decode cX6_both 48 = .ok (.invokevirtual 221, 3) := by decide +kernel
theorem dX6_both_51 : decode cX6_both 51 = .ok (.ireturn, 1) := by decide +kernel
theorem dX6_often_0 : decode cX6_often 0 = .ok (.aload_n 0, 1) := by decide +kernel
theorem dX6_often_1 : decode cX6_often 1 = .ok (.iload_n 1, 1) := by decide +kernel
theorem dX6_often_2 : decode cX6_often 2 = .ok (.invokevirtual 65, 3) := by decide +kernel
theorem dX6_often_5 : decode cX6_often 5 = .ok (.ifCond .eq 23, 3) := by decide +kernel
theorem dX6_often_8 : decode cX6_often 8 = .ok (.iload_n 2, 1) := by decide +kernel
theorem dX6_often_9 : decode cX6_often 9 = .ok (.iload_n 3, 1) := by decide +kernel
theorem dX6_often_10 : decode cX6_often 10 = .ok (.invokestatic 218, 3) := by decide +kernel
theorem dX6_often_13 : decode cX6_often 13 = .ok (.ifCond .eq 15, 3) := by decide +kernel
theorem dX6_often_16 : decode cX6_often 16 = .ok (.aload_n 0, 1) := by decide +kernel
theorem dX6_often_17 : decode cX6_often 17 = .ok (.iconst 1, 1) := by decide +kernel
theorem dX6_often_18 : decode cX6_often 18 = .ok (.iload_n 1, 1) := by decide +kernel
theorem dX6_often_19 : decode cX6_often 19 = .ok (.ishl, 1) := by decide +kernel
theorem dX6_often_20 : decode cX6_often 20 = .ok (.iload_n 2, 1) := by decide +kernel
theorem dX6_often_21 : decode cX6_often 21 = .ok (.iload_n 3, 1) := by decide +kernel
theorem dX6_often_22 : decode cX6_often 22 = .ok (.invokevirtual 221, 3) := by decide +kernel
theorem dX6_often_25 : decode cX6_often 25 = .ok (.goto 9, 3) := by decide +kernel
theorem dX6_often_28 : decode cX6_often 28 = .ok (.aload_n 0, 1) := by decide +kernel
theorem dX6_often_29 : decode cX6_often 29 = .ok (.bipush (-2), 2) := by decide +kernel
theorem dX6_often_31 : decode cX6_often 31 = .ok (.invokevirtual 50, 3) := by decide +kernel
theorem dX6_often_34 : decode cX6_often 34 = .ok (.ireturn, 1) := by decide +kernel
theorem dX6_best_0 : decode cX6_best 0 = .ok (.iload_n 1, 1) := by decide +kernel
theorem dX6_best_1 : decode cX6_best 1 = .ok (.iload_n 2, 1) := by decide +kernel
theorem dX6_best_2 : decode cX6_best 2 = .ok (.invokestatic 218, 3) := by decide +kernel
theorem dX6_best_5 : decode cX6_best 5 = .ok (.ifCond .eq 13, 3) := by decide +kernel
theorem dX6_best_8 : decode cX6_best 8 = .ok (.iload_n 3, 1) := by decide +kernel
theorem dX6_best_9 : decode cX6_best 9 = .ok (.i2l, 1) := by decide +kernel
theorem dX6_best_10 : decode cX6_best 10 = .ok (.lconst 0, 1) := by decide +kernel
theorem dX6_best_11 : decode cX6_best 11 = .ok (.lconst 1, 1) := by decide +kernel
theorem dX6_best_12 : decode cX6_best 12 = .ok (.invokestatic 42, 3) := by decide +kernel
theorem dX6_best_15 : decode cX6_best 15 = .ok (.ifCond .ne 11, 3) := by decide +kernel
theorem dX6_best_18 : decode cX6_best 18 = .ok (.aload_n 0, 1) := by decide +kernel
theorem dX6_best_19 : decode cX6_best 19 = .ok (.bipush (-2), 2) := by decide +kernel
theorem dX6_best_21 : decode cX6_best 21 = .ok (.invokevirtual 50, 3) := by decide +kernel
theorem dX6_best_24 : decode cX6_best 24 = .ok (.i2l, 1) := by decide +kernel
theorem dX6_best_25 : decode cX6_best 25 = .ok (.lreturn, 1) := by decide +kernel
theorem dX6_best_26 : decode cX6_best 26 = .ok (.iload_n 1, 1) := by decide +kernel
theorem dX6_best_27 : decode cX6_best 27 = .ok (.istore 4, 2) := by decide +kernel
theorem dX6_best_29 : decode cX6_best 29 = .ok (.aload_n 0, 1) := by decide +kernel
theorem dX6_best_30 : decode cX6_best 30 = .ok (.aload_n 0, 1) := by decide +kernel
theorem dX6_best_31 : decode cX6_best 31 = .ok (.iload_n 1, 1) := by decide +kernel
theorem dX6_best_32 : decode cX6_best 32 = .ok (.invokevirtual 187, 3) := by decide +kernel
theorem dX6_best_35 : decode cX6_best 35 = .ok (.invokevirtual 211, 3) := by decide +kernel
theorem dX6_best_38 : decode cX6_best 38 = .ok (.lstore 5, 2) := by decide +kernel
theorem dX6_best_40 : decode cX6_best 40 = .ok (.iconst 1, 1) := by decide +kernel
theorem dX6_best_41 : decode cX6_best 41 = .ok (.istore 7, 2) := by decide +kernel
theorem dX6_best_43 : decode cX6_best 43 = .ok (.iload 7, 2) := by decide +kernel
theorem dX6_best_45 : decode cX6_best 45 = .ok (.iload_n 2, 1) := by decide +kernel
theorem dX6_best_46 : decode cX6_best 46 = .ok (.if_icmp .ge 59, 3) := by decide +kernel
theorem dX6_best_49 : decode cX6_best 49 = .ok (.aload_n 0, 1) := by decide +kernel
theorem dX6_best_50 : decode cX6_best 50 = .ok (.aload_n 0, 1) := by decide +kernel
theorem dX6_best_51 : decode cX6_best 51 = .ok (.iload_n 1, 1) := by decide +kernel
theorem dX6_best_52 : decode cX6_best 52 = .ok (.iload 7, 2) := by decide +kernel
theorem dX6_best_54 : decode cX6_best 54 = .ok (.iadd, 1) := by decide +kernel
theorem dX6_best_55 : decode cX6_best 55 = .ok (.invokevirtual 187, 3) := by decide +kernel
theorem dX6_best_58 : decode cX6_best 58 = .ok (.invokevirtual 211, 3) := by decide +kernel
theorem dX6_best_61 : decode cX6_best 61 = .ok (.lstore 8, 2) := by decide +kernel
theorem dX6_best_63 : decode cX6_best 63 = .ok (.lload 8, 2) := by decide +kernel
theorem dX6_best_65 : decode cX6_best 65 = .ok (.lload 5, 2) := by decide +kernel
theorem dX6_best_67 : decode cX6_best 67 = .ok (.lcmp, 1) := by decide +kernel
theorem dX6_best_68 : decode cX6_best 68 = .ok (.ifCond .ge 10, 3) := by decide +kernel
theorem dX6_best_71 : decode cX6_best 71 = .ok (.iload_n 1, 1) := by decide +kernel
theorem dX6_best_72 : decode cX6_best 72 = .ok (.iload 7, 2) := by decide +kernel
theorem dX6_best_74 : decode cX6_best 74 = .ok (.iadd, 1) := by decide +kernel
theorem dX6_best_75 : decode cX6_best 75 = .ok (.goto 5, 3) := by decide +kernel
theorem dX6_best_78 : decode cX6_best 78 = .ok (.iload 4, 2) := by decide +kernel
theorem dX6_best_80 : decode cX6_best 80 = .ok (.istore 4, 2) := by decide +kernel
theorem dX6_best_82 : decode cX6_best 82 = .ok (.lload 8, 2) := by decide +kernel
theorem dX6_best_84 : decode cX6_best 84 = .ok (.lload 5, 2) := by decide +kernel
theorem dX6_best_86 : decode cX6_best 86 = .ok (.lcmp, 1) := by decide +kernel
theorem dX6_best_87 : decode cX6_best 87 = .ok (.ifCond .ge 8, 3) := by decide +kernel
theorem dX6_best_90 : decode cX6_best 90 = .ok (.lload 8, 2) := by decide +kernel
theorem dX6_best_92 : decode cX6_best 92 = .ok (.goto 5, 3) := by decide +kernel
theorem dX6_best_95 : decode cX6_best 95 = .ok (.lload 5, 2) := by decide +kernel
theorem dX6_best_97 : decode cX6_best 97 = .ok (.lstore 5, 2) := by decide +kernel
theorem dX6_best_99 : decode cX6_best 99 = .ok (.iinc 7 1, 3) := by decide +kernel
theorem dX6_best_102 : decode cX6_best 102 = .ok (.goto (-59), 3) := by decide +kernel
theorem dX6_best_105 : decode cX6_best 105 = .ok (.iload_n 3, 1) := by decide +kernel
theorem dX6_best_106 : decode cX6_best 106 = .ok (.ifCond .ne 9, 3) := by decide +kernel
theorem dX6_best_109 : decode cX6_best 109 = .ok (.iload 4, 2) := by decide +kernel
theorem dX6_best_111 : decode cX6_best 111 = .ok (.i2l, 1) := by decide +kernel
theorem dX6_best_112 : decode cX6_best 112 = .ok (.goto 5, 3) := by decide +kernel
theorem dX6_best_115 : decode cX6_best 115 = .ok (.lload 5, 2) := by decide +kernel
theorem dX6_best_117 : decode cX6_best 117 = .ok (.lreturn, 1) := by decide +kernel
theorem dX6_layCan_0 : decode cX6_layCan 0 = .ok (.iconst 0, 1) := by decide +kernel
theorem dX6_layCan_1 : decode cX6_layCan 1 = .ok (.istore_n 1, 1) := by decide +kernel
theorem dX6_layCan_2 : decode cX6_layCan 2 = .ok (.iload_n 1, 1) := by decide +kernel
theorem dX6_layCan_3 : decode cX6_layCan 3 = .ok (.sipush 4096, 3) := by decide +kernel
theorem dX6_layCan_6 : decode cX6_layCan 6 = .ok (.if_icmp .ge 16, 3) := by decide +kernel
theorem dX6_layCan_9 : decode cX6_layCan 9 = .ok (.aload_n 0, 1) := by decide +kernel
theorem dX6_layCan_10 : decode cX6_layCan 10 = .ok (.getfield 25, 3) := by decide +kernel
theorem dX6_layCan_13 : decode cX6_layCan 13 = .ok (.iload_n 1, 1) := by decide +kernel
theorem dX6_layCan_14 : decode cX6_layCan 14 = .ok (.iconst 0, 1) := by decide +kernel
theorem dX6_layCan_15 : decode cX6_layCan 15 = .ok (.bastore, 1) := by decide +kernel
theorem dX6_layCan_16 : decode cX6_layCan 16 = .ok (.iinc 1 1, 3) := by decide +kernel
theorem dX6_layCan_19 : decode cX6_layCan 19 = .ok (.goto (-17), 3) := by decide +kernel
theorem dX6_layCan_22 : decode cX6_layCan 22 = .ok (.iconst 0, 1) := by decide +kernel
theorem dX6_layCan_23 : decode cX6_layCan 23 = .ok (.istore_n 1, 1) := by decide +kernel
theorem dX6_layCan_24 : decode cX6_layCan 24 = .ok (.aload_n 0, 1) := by decide +kernel
theorem dX6_layCan_25 : decode cX6_layCan 25 = .ok (.invokevirtual 167, 3) := by decide +kernel
theorem dX6_layCan_28 : decode cX6_layCan 28 = .ok (.iconst 0, 1) := by decide +kernel
theorem dX6_layCan_29 : decode cX6_layCan 29 = .ok (.istore_n 2, 1) := by decide +kernel
theorem dX6_layCan_30 : decode cX6_layCan 30 = .ok (.iload_n 2, 1) := by decide +kernel
theorem dX6_layCan_31 : decode cX6_layCan 31 = .ok (.aload_n 0, 1) := by decide +kernel
theorem dX6_layCan_32 : decode cX6_layCan 32 = .ok (.getfield 38, 3) := by decide +kernel
theorem dX6_layCan_35 : decode cX6_layCan 35 = .ok (.if_icmp .ge 25, 3) := by decide +kernel
theorem dX6_layCan_38 : decode cX6_layCan 38 = .ok (.iload_n 1, 1) := by decide +kernel
theorem dX6_layCan_39 : decode cX6_layCan 39 = .ok (.aload_n 0, 1) := by decide +kernel
theorem dX6_layCan_40 : decode cX6_layCan 40 = .ok (.iload_n 2, 1) := by decide +kernel
theorem dX6_layCan_41 : decode cX6_layCan 41 = .ok (.invokevirtual 137, 3) := by decide +kernel
theorem dX6_layCan_44 : decode cX6_layCan 44 = .ok (.ifCond .eq 7, 3) := by decide +kernel
theorem dX6_layCan_47 : decode cX6_layCan 47 = .ok (.iconst 1, 1) := by decide +kernel
theorem dX6_layCan_48 : decode cX6_layCan 48 = .ok (.goto 4, 3) := by decide +kernel
theorem dX6_layCan_51 : decode cX6_layCan 51 = .ok (.iconst 0, 1) := by decide +kernel
theorem dX6_layCan_52 : decode cX6_layCan 52 = .ok (.iadd, 1) := by decide +kernel
theorem dX6_layCan_53 : decode cX6_layCan 53 = .ok (.istore_n 1, 1) := by decide +kernel
theorem dX6_layCan_54 : decode cX6_layCan 54 = .ok (.iinc 2 1, 3) := by decide +kernel
theorem dX6_layCan_57 : decode cX6_layCan 57 = .ok (.goto (-27), 3) := by decide +kernel
theorem dX6_layCan_60 : decode cX6_layCan 60 = .ok (.iconst 0, 1) := by decide +kernel
theorem dX6_layCan_61 : decode cX6_layCan 61 = .ok (.istore_n 2, 1) := by decide +kernel
theorem dX6_layCan_62 : decode cX6_layCan 62 = .ok (.iload_n 2, 1) := by decide +kernel
theorem dX6_layCan_63 : decode cX6_layCan 63 = .ok (.iconst 1, 1) := by decide +kernel
theorem dX6_layCan_64 : decode cX6_layCan 64 = .ok (.iload_n 1, 1) := by decide +kernel
theorem dX6_layCan_65 : decode cX6_layCan 65 = .ok (.ishl, 1) := by decide +kernel
theorem dX6_layCan_66 : decode cX6_layCan 66 = .ok (.if_icmp .ge 47, 3) := by decide +kernel
theorem dX6_layCan_69 : decode cX6_layCan 69 = .ok (.iconst 0, 1) := by decide +kernel
theorem dX6_layCan_70 : decode cX6_layCan 70 = .ok (.istore_n 3, 1) := by decide +kernel
theorem dX6_layCan_71 : decode cX6_layCan 71 = .ok (.aload_n 0, 1) := by decide +kernel
theorem dX6_layCan_72 : decode cX6_layCan 72 = .ok (.invokevirtual 167, 3) := by decide +kernel
theorem dX6_layCan_75 : decode cX6_layCan 75 = .ok (.aload_n 0, 1) := by decide +kernel
theorem dX6_layCan_76 : decode cX6_layCan 76 = .ok (.invokevirtual 170, 3) := by decide +kernel
theorem dX6_layCan_79 : decode cX6_layCan 79 = .ok (.ifCond .eq 18, 3) := by decide +kernel
theorem dX6_layCan_82 : decode cX6_layCan 82 = .ok (.aload_n 0, 1) := by decide +kernel
theorem dX6_layCan_83 : decode cX6_layCan 83 = .ok (.iload_n 2, 1) := by decide +kernel
theorem dX6_layCan_84 : decode cX6_layCan 84 = .ok (.iload_n 3, 1) := by decide +kernel
theorem dX6_layCan_85 : decode cX6_layCan 85 = .ok (.invokestatic 120, 3) := by decide +kernel
theorem dX6_layCan_88 : decode cX6_layCan 88 = .ok (.invokevirtual 180, 3) := by decide +kernel
theorem dX6_layCan_91 : decode cX6_layCan 91 = .ok (.iinc 3 1, 3) := by decide +kernel
theorem dX6_layCan_94 : decode cX6_layCan 94 = .ok (.goto (-19), 3) := by decide +kernel
theorem dX6_layCan_97 : decode cX6_layCan 97 = .ok (.aload_n 0, 1) := by decide +kernel
theorem dX6_layCan_98 : decode cX6_layCan 98 = .ok (.getfield 25, 3) := by decide +kernel
theorem dX6_layCan_101 : decode cX6_layCan 101 = .ok (.aload_n 0, 1) := by decide +kernel
theorem dX6_layCan_102 : decode cX6_layCan 102 = .ok (.invokevirtual 184, 3) := by decide +kernel
theorem dX6_layCan_105 : decode cX6_layCan 105 = .ok (.iconst 1, 1) := by decide +kernel
theorem dX6_layCan_106 : decode cX6_layCan 106 = .ok (.bastore, 1) := by decide +kernel
theorem dX6_layCan_107 : decode cX6_layCan 107 = .ok (.iinc 2 1, 3) := by decide +kernel
theorem dX6_layCan_110 : decode cX6_layCan 110 = .ok (.goto (-48), 3) := by decide +kernel
theorem dX6_layCan_113 : decode cX6_layCan 113 = .ok (.return_, 1) := by decide +kernel
theorem dX6_many_0 : decode cX6_many 0 = .ok (.iconst 0, 1) := by decide +kernel
theorem dX6_many_1 : decode cX6_many 1 = .ok (.istore_n 1, 1) := by decide +kernel
theorem dX6_many_2 : decode cX6_many 2 = .ok (.aload_n 0, 1) := by decide +kernel
theorem dX6_many_3 : decode cX6_many 3 = .ok (.invokevirtual 224, 3) := by decide +kernel
theorem dX6_many_6 : decode cX6_many 6 = .ok (.iconst 0, 1) := by decide +kernel
theorem dX6_many_7 : decode cX6_many 7 = .ok (.istore_n 2, 1) := by decide +kernel
theorem dX6_many_8 : decode cX6_many 8 = .ok (.iload_n 2, 1) := by decide +kernel
theorem dX6_many_9 : decode cX6_many 9 = .ok (.sipush 4096, 3) := by decide +kernel
theorem dX6_many_12 : decode cX6_many 12 = .ok (.if_icmp .ge 26, 3) := by decide +kernel
theorem dX6_many_15 : decode cX6_many 15 = .ok (.iload_n 1, 1) := by decide +kernel
theorem dX6_many_16 : decode cX6_many 16 = .ok (.aload_n 0, 1) := by decide +kernel
theorem dX6_many_17 : decode cX6_many 17 = .ok (.getfield 25, 3) := by decide +kernel
theorem dX6_many_20 : decode cX6_many 20 = .ok (.iload_n 2, 1) := by decide +kernel
theorem dX6_many_21 : decode cX6_many 21 = .ok (.baload, 1) := by decide +kernel
theorem dX6_many_22 : decode cX6_many 22 = .ok (.ifCond .eq 7, 3) := by decide +kernel
theorem dX6_many_25 : decode cX6_many 25 = .ok (.iconst 1, 1) := by decide +kernel
theorem dX6_many_26 : decode cX6_many 26 = .ok (.goto 4, 3) := by decide +kernel
theorem dX6_many_29 : decode cX6_many 29 = .ok (.iconst 0, 1) := by decide +kernel
theorem dX6_many_30 : decode cX6_many 30 = .ok (.iadd, 1) := by decide +kernel
theorem dX6_many_31 : decode cX6_many 31 = .ok (.istore_n 1, 1) := by decide +kernel
theorem dX6_many_32 : decode cX6_many 32 = .ok (.iinc 2 1, 3) := by decide +kernel
theorem dX6_many_35 : decode cX6_many 35 = .ok (.goto (-27), 3) := by decide +kernel
theorem dX6_many_38 : decode cX6_many 38 = .ok (.iload_n 1, 1) := by decide +kernel
theorem dX6_many_39 : decode cX6_many 39 = .ok (.ireturn, 1) := by decide +kernel
theorem dX6_sizes_0 : decode cX6_sizes 0 = .ok (.iload_n 1, 1) := by decide +kernel
theorem dX6_sizes_1 : decode cX6_sizes 1 = .ok (.i2l, 1) := by decide +kernel
theorem dX6_sizes_2 : decode cX6_sizes 2 = .ok (.lconst 0, 1) := by decide +kernel
theorem dX6_sizes_3 : decode cX6_sizes 3 = .ok (.lconst 1, 1) := by decide +kernel
theorem dX6_sizes_4 : decode cX6_sizes 4 = .ok (.invokestatic 42, 3) := by decide +kernel
theorem dX6_sizes_7 : decode cX6_sizes 7 = .ok (.ifCond .ne 10, 3) := by decide +kernel
theorem dX6_sizes_10 : decode cX6_sizes 10 = .ok (.aload_n 0, 1) := by decide +kernel
theorem dX6_sizes_11 : decode cX6_sizes 11 = .ok (.bipush (-2), 2) := by decide +kernel
theorem dX6_sizes_13 : decode cX6_sizes 13 = .ok (.invokevirtual 50, 3) := by decide +kernel
theorem dX6_sizes_16 : decode cX6_sizes 16 = .ok (.ireturn, 1) := by decide +kernel
theorem dX6_sizes_17 : decode cX6_sizes 17 = .ok (.bipush 12, 2) := by decide +kernel
theorem dX6_sizes_19 : decode cX6_sizes 19 = .ok (.istore_n 2, 1) := by decide +kernel
theorem dX6_sizes_20 : decode cX6_sizes 20 = .ok (.iconst 0, 1) := by decide +kernel
theorem dX6_sizes_21 : decode cX6_sizes 21 = .ok (.istore_n 3, 1) := by decide +kernel
theorem dX6_sizes_22 : decode cX6_sizes 22 = .ok (.aload_n 0, 1) := by decide +kernel
theorem dX6_sizes_23 : decode cX6_sizes 23 = .ok (.invokevirtual 224, 3) := by decide +kernel
theorem dX6_sizes_26 : decode cX6_sizes 26 = .ok (.iconst 0, 1) := by decide +kernel
theorem dX6_sizes_27 : decode cX6_sizes 27 = .ok (.istore 4, 2) := by decide +kernel
theorem dX6_sizes_29 : decode cX6_sizes 29 = .ok (.iload 4, 2) := by decide +kernel
theorem dX6_sizes_31 : decode cX6_sizes 31 = .ok (.sipush 4096, 3) := by decide +kernel
theorem dX6_sizes_34 : decode cX6_sizes 34 = .ok (.if_icmp .ge 67, 3) := by decide +kernel
theorem dX6_sizes_37 : decode cX6_sizes 37 = .ok (.aload_n 0, 1) := by decide +kernel
theorem dX6_sizes_38 : decode cX6_sizes 38 = .ok (.getfield 25, 3) := by decide +kernel
theorem dX6_sizes_41 : decode cX6_sizes 41 = .ok (.iload 4, 2) := by decide +kernel
theorem dX6_sizes_43 : decode cX6_sizes 43 = .ok (.baload, 1) := by decide +kernel
theorem dX6_sizes_44 : decode cX6_sizes 44 = .ok (.ifCond .eq 20, 3) := by decide +kernel
theorem dX6_sizes_47 : decode cX6_sizes 47 = .ok (.iload 4, 2) := by decide +kernel
theorem dX6_sizes_49 : decode cX6_sizes 49 = .ok (.invokestatic 190, 3) := by decide +kernel
theorem dX6_sizes_52 : decode cX6_sizes 52 = .ok (.iload_n 2, 1) := by decide +kernel
theorem dX6_sizes_53 : decode cX6_sizes 53 = .ok (.if_icmp .ge 11, 3) := by decide +kernel
theorem dX6_sizes_56 : decode cX6_sizes 56 = .ok (.iload 4, 2) := by decide +kernel
theorem dX6_sizes_58 : decode cX6_sizes 58 = .ok (.invokestatic 190, 3) := by decide +kernel
theorem dX6_sizes_61 : decode cX6_sizes 61 = .ok (.goto 4, 3) := by decide +kernel
theorem dX6_sizes_64 : decode cX6_sizes 64 = .ok (.iload_n 2, 1) := by decide +kernel
theorem dX6_sizes_65 : decode cX6_sizes 65 = .ok (.istore_n 2, 1) := by decide +kernel
theorem dX6_sizes_66 : decode cX6_sizes 66 = .ok (.aload_n 0, 1) := by decide +kernel
theorem dX6_sizes_67 : decode cX6_sizes 67 = .ok (.getfield 25, 3) := by decide +kernel
theorem dX6_sizes_70 : decode cX6_sizes 70 = .ok (.iload 4, 2) := by decide +kernel
theorem dX6_sizes_72 : decode cX6_sizes 72 = .ok (.baload, 1) := by decide +kernel
theorem dX6_sizes_73 : decode cX6_sizes 73 = .ok (.ifCond .eq 20, 3) := by decide +kernel
theorem dX6_sizes_76 : decode cX6_sizes 76 = .ok (.iload 4, 2) := by decide +kernel
theorem dX6_sizes_78 : decode cX6_sizes 78 = .ok (.invokestatic 190, 3) := by decide +kernel
theorem dX6_sizes_81 : decode cX6_sizes 81 = .ok (.iload_n 3, 1) := by decide +kernel
theorem dX6_sizes_82 : decode cX6_sizes 82 = .ok (.if_icmp .le 11, 3) := by decide +kernel
theorem dX6_sizes_85 : decode cX6_sizes 85 = .ok (.iload 4, 2) := by decide +kernel
theorem dX6_sizes_87 : decode cX6_sizes 87 = .ok (.invokestatic 190, 3) := by decide +kernel
theorem dX6_sizes_90 : decode cX6_sizes 90 = .ok (.goto 4, 3) := by decide +kernel
theorem dX6_sizes_93 : decode cX6_sizes 93 = .ok (.iload_n 3, 1) := by decide +kernel
theorem dX6_sizes_94 : decode cX6_sizes 94 = .ok (.istore_n 3, 1) := by decide +kernel
theorem dX6_sizes_95 : decode cX6_sizes 95 = .ok (.iinc 4 1, 3) := by decide +kernel
theorem dX6_sizes_98 : decode cX6_sizes 98 = .ok (.goto (-69), 3) := by decide +kernel
theorem dX6_sizes_101 : decode cX6_sizes 101 = .ok (.iload_n 1, 1) := by decide +kernel
theorem dX6_sizes_102 : decode cX6_sizes 102 = .ok (.ifCond .ne 7, 3) := by decide +kernel
theorem dX6_sizes_105 : decode cX6_sizes 105 = .ok (.iload_n 2, 1) := by decide +kernel
theorem dX6_sizes_106 : decode cX6_sizes 106 = .ok (.goto 4, 3) := by decide +kernel
theorem dX6_sizes_109 : decode cX6_sizes 109 = .ok (.iload_n 3, 1) := by decide +kernel
theorem dX6_sizes_110 : decode cX6_sizes 110 = .ok (.ireturn, 1) := by decide +kernel
theorem dX6_can_0 : decode cX6_can 0 = .ok (.aload_n 0, 1) := by decide +kernel
theorem dX6_can_1 : decode cX6_can 1 = .ok (.iload_n 1, 1) := by decide +kernel
theorem dX6_can_2 : decode cX6_can 2 = .ok (.invokevirtual 65, 3) := by decide +kernel
theorem dX6_can_5 : decode cX6_can 5 = .ok (.ifCond .eq 11, 3) := by decide +kernel
theorem dX6_can_8 : decode cX6_can 8 = .ok (.aload_n 0, 1) := by decide +kernel
theorem dX6_can_9 : decode cX6_can 9 = .ok (.iload_n 2, 1) := by decide +kernel
theorem dX6_can_10 : decode cX6_can 10 = .ok (.invokevirtual 65, 3) := by decide +kernel
theorem dX6_can_13 : decode cX6_can 13 = .ok (.ifCond .ne 10, 3) := by decide +kernel
theorem dX6_can_16 : decode cX6_can 16 = .ok (.aload_n 0, 1) := by decide +kernel
theorem dX6_can_17 : decode cX6_can 17 = .ok (.bipush (-2), 2) := by decide +kernel
theorem dX6_can_19 : decode cX6_can 19 = .ok (.invokevirtual 50, 3) := by decide +kernel
theorem dX6_can_22 : decode cX6_can 22 = .ok (.ireturn, 1) := by decide +kernel
theorem dX6_can_23 : decode cX6_can 23 = .ok (.iconst 0, 1) := by decide +kernel
theorem dX6_can_24 : decode cX6_can 24 = .ok (.istore_n 3, 1) := by decide +kernel
theorem dX6_can_25 : decode cX6_can 25 = .ok (.iconst 1, 1) := by decide +kernel
theorem dX6_can_26 : decode cX6_can 26 = .ok (.iload_n 1, 1) := by decide +kernel
theorem dX6_can_27 : decode cX6_can 27 = .ok (.ishl, 1) := by decide +kernel
theorem dX6_can_28 : decode cX6_can 28 = .ok (.iconst 1, 1) := by decide +kernel
theorem dX6_can_29 : decode cX6_can 29 = .ok (.iload_n 2, 1) := by decide +kernel
theorem dX6_can_30 : decode cX6_can 30 = .ok (.ishl, 1) := by decide +kernel
theorem dX6_can_31 : decode cX6_can 31 = .ok (.ior, 1) := by decide +kernel
theorem dX6_can_32 : decode cX6_can 32 = .ok (.istore 4, 2) := by decide +kernel
theorem dX6_can_34 : decode cX6_can 34 = .ok (.aload_n 0, 1) := by decide +kernel
theorem dX6_can_35 : decode cX6_can 35 = .ok (.invokevirtual 224, 3) := by decide +kernel
theorem dX6_can_38 : decode cX6_can 38 = .ok (.iconst 0, 1) := by decide +kernel
theorem dX6_can_39 : decode cX6_can 39 = .ok (.istore 5, 2) := by decide +kernel
theorem dX6_can_41 : decode cX6_can 41 = .ok (.iload 5, 2) := by decide +kernel
theorem dX6_can_43 : decode cX6_can 43 = .ok (.sipush 4096, 3) := by decide +kernel
theorem dX6_can_46 : decode cX6_can 46 = .ok (.if_icmp .ge 39, 3) := by decide +kernel
theorem dX6_can_49 : decode cX6_can 49 = .ok (.iload_n 3, 1) := by decide +kernel
theorem dX6_can_50 : decode cX6_can 50 = .ok (.ifCond .ne 23, 3) := by decide +kernel
theorem dX6_can_53 : decode cX6_can 53 = .ok (.aload_n 0, 1) := by decide +kernel
theorem dX6_can_54 : decode cX6_can 54 = .ok (.getfield 25, 3) := by decide +kernel
theorem dX6_can_57 : decode cX6_can 57 = .ok (.iload 5, 2) := by decide +kernel
theorem dX6_can_59 : decode cX6_can 59 = .ok (.baload, 1) := by decide +kernel
theorem dX6_can_60 : decode cX6_can 60 = .ok (.ifCond .eq 17, 3) := by decide +kernel
theorem dX6_can_63 : decode cX6_can 63 = .ok (.iload 5, 2) := by decide +kernel
theorem dX6_can_65 : decode cX6_can 65 = .ok (.iload 4, 2) := by decide +kernel
theorem dX6_can_67 : decode cX6_can 67 = .ok (.iand, 1) := by decide +kernel
theorem dX6_can_68 : decode cX6_can 68 = .ok (.iload 4, 2) := by decide +kernel
theorem dX6_can_70 : decode cX6_can 70 = .ok (.if_icmp .ne 7, 3) := by decide +kernel
theorem dX6_can_73 : decode cX6_can 73 = .ok (.iconst 1, 1) := by decide +kernel
theorem dX6_can_74 : decode cX6_can 74 = .ok (.goto 4, 3) := by decide +kernel
theorem dX6_can_77 : decode cX6_can 77 = .ok (.iconst 0, 1) := by decide +kernel
theorem dX6_can_78 : decode cX6_can 78 = .ok (.istore_n 3, 1) := by decide +kernel
theorem dX6_can_79 : decode cX6_can 79 = .ok (.iinc 5 1, 3) := by decide +kernel
theorem dX6_can_82 : decode cX6_can 82 = .ok (.goto (-41), 3) := by decide +kernel
theorem dX6_can_85 : decode cX6_can 85 = .ok (.iload_n 3, 1) := by decide +kernel
theorem dX6_can_86 : decode cX6_can 86 = .ok (.ifCond .eq 7, 3) := by decide +kernel
theorem dX6_can_89 : decode cX6_can 89 = .ok (.iconst 1, 1) := by decide +kernel
theorem dX6_can_90 : decode cX6_can 90 = .ok (.goto 4, 3) := by decide +kernel
theorem dX6_can_93 : decode cX6_can 93 = .ok (.iconst 0, 1) := by decide +kernel
theorem dX6_can_94 : decode cX6_can 94 = .ok (.ireturn, 1) := by decide +kernel
theorem dX6_least_0 : decode cX6_least 0 = .ok (.ldc2_w 227, 3) := by decide +kernel
theorem dX6_least_3 : decode cX6_least 3 = .ok (.lstore_n 1, 1) := by decide +kernel
theorem dX6_least_4 : decode cX6_least 4 = .ok (.aload_n 0, 1) := by decide +kernel
theorem dX6_least_5 : decode cX6_least 5 = .ok (.invokevirtual 224, 3) := by decide +kernel
theorem dX6_least_8 : decode cX6_least 8 = .ok (.iconst 0, 1) := by decide +kernel
theorem dX6_least_9 : decode cX6_least 9 = .ok (.istore_n 3, 1) := by decide +kernel
theorem dX6_least_10 : decode cX6_least 10 = .ok (.iload_n 3, 1) := by decide +kernel
theorem dX6_least_11 : decode cX6_least 11 = .ok (.sipush 4096, 3) := by decide +kernel
theorem dX6_least_14 : decode cX6_least 14 = .ok (.if_icmp .ge 45, 3) := by decide +kernel
theorem dX6_least_17 : decode cX6_least 17 = .ok (.aload_n 0, 1) := by decide +kernel
theorem dX6_least_18 : decode cX6_least 18 = .ok (.getfield 25, 3) := by decide +kernel
theorem dX6_least_21 : decode cX6_least 21 = .ok (.iload_n 3, 1) := by decide +kernel
theorem dX6_least_22 : decode cX6_least 22 = .ok (.baload, 1) := by decide +kernel
theorem dX6_least_23 : decode cX6_least 23 = .ok (.ifCond .eq 30, 3) := by decide +kernel
theorem dX6_least_26 : decode cX6_least 26 = .ok (.aload_n 0, 1) := by decide +kernel
theorem dX6_least_27 : decode cX6_least 27 = .ok (.iload_n 3, 1) := by decide +kernel
theorem dX6_least_28 : decode cX6_least 28 = .ok (.invokevirtual 211, 3) := by decide +kernel
theorem dX6_least_31 : decode cX6_least 31 = .ok (.lstore 4, 2) := by decide +kernel
theorem dX6_least_33 : decode cX6_least 33 = .ok (.lload_n 1, 1) := by decide +kernel
theorem dX6_least_34 : decode cX6_least 34 = .ok (.lconst 0, 1) := by decide +kernel
theorem dX6_least_35 : decode cX6_least 35 = .ok (.lcmp, 1) := by decide +kernel
theorem dX6_least_36 : decode cX6_least 36 = .ok (.ifCond .lt 10, 3) := by decide +kernel
theorem dX6_least_39 : decode cX6_least 39 = .ok (.lload 4, 2) := by decide +kernel
theorem dX6_least_41 : decode cX6_least 41 = .ok (.lload_n 1, 1) := by decide +kernel
theorem dX6_least_42 : decode cX6_least 42 = .ok (.lcmp, 1) := by decide +kernel
theorem dX6_least_43 : decode cX6_least 43 = .ok (.ifCond .ge 8, 3) := by decide +kernel
theorem dX6_least_46 : decode cX6_least 46 = .ok (.lload 4, 2) := by decide +kernel
theorem dX6_least_48 : decode cX6_least 48 = .ok (.goto 4, 3) := by decide +kernel
theorem dX6_least_51 : decode cX6_least 51 = .ok (.lload_n 1, 1) := by decide +kernel
theorem dX6_least_52 : decode cX6_least 52 = .ok (.lstore_n 1, 1) := by decide +kernel
theorem dX6_least_53 : decode cX6_least 53 = .ok (.iinc 3 1, 3) := by decide +kernel
theorem dX6_least_56 : decode cX6_least 56 = .ok (.goto (-46), 3) := by decide +kernel
theorem dX6_least_59 : decode cX6_least 59 = .ok (.lload_n 1, 1) := by decide +kernel
theorem dX6_least_60 : decode cX6_least 60 = .ok (.lreturn, 1) := by decide +kernel
theorem dX6_type_0 : decode cX6_type 0 = .ok (.iload_n 1, 1) := by decide +kernel
theorem dX6_type_1 : decode cX6_type 1 = .ok (.i2l, 1) := by decide +kernel
theorem dX6_type_2 : decode cX6_type 2 = .ok (.lconst 0, 1) := by decide +kernel
theorem dX6_type_3 : decode cX6_type 3 = .ok (.ldc2_w 229, 3) := by decide +kernel
theorem dX6_type_6 : decode cX6_type 6 = .ok (.invokestatic 42, 3) := by decide +kernel
theorem dX6_type_9 : decode cX6_type 9 = .ok (.ifCond .ne 10, 3) := by decide +kernel
theorem dX6_type_12 : decode cX6_type 12 = .ok (.aload_n 0, 1) := by decide +kernel
theorem dX6_type_13 : decode cX6_type 13 = .ok (.bipush (-2), 2) := by decide +kernel
theorem dX6_type_15 : decode cX6_type 15 = .ok (.invokevirtual 50, 3) := by decide +kernel
theorem dX6_type_18 : decode cX6_type 18 = .ok (.ireturn, 1) := by decide +kernel
theorem dX6_type_19 : decode cX6_type 19 = .ok (.aload_n 0, 1) := by decide +kernel
theorem dX6_type_20 : decode cX6_type 20 = .ok (.getfield 231, 3) := by decide +kernel
theorem dX6_type_23 : decode cX6_type 23 = .ok (.bipush 120, 2) := by decide +kernel
theorem dX6_type_25 : decode cX6_type 25 = .ok (.if_icmp .ne 8, 3) := by decide +kernel
theorem dX6_type_28 : decode cX6_type 28 = .ok (.aload_n 0, 1) := by decide +kernel
theorem dX6_type_29 : decode cX6_type 29 = .ok (.invokevirtual 53, 3) := by decide +kernel
theorem dX6_type_32 : decode cX6_type 32 = .ok (.ireturn, 1) := by decide +kernel
theorem dX6_type_33 : decode cX6_type 33 = .ok (.aload_n 0, 1) := by decide +kernel
theorem dX6_type_34 : decode cX6_type 34 = .ok (.getfield 29, 3) := by decide +kernel
theorem dX6_type_37 : decode cX6_type 37 = .ok (.aload_n 0, 1) := by decide +kernel
theorem dX6_type_38 : decode cX6_type 38 = .ok (.getfield 231, 3) := by decide +kernel
theorem dX6_type_41 : decode cX6_type 41 = .ok (.iload_n 1, 1) := by decide +kernel
theorem dX6_type_42 : decode cX6_type 42 = .ok (.iastore, 1) := by decide +kernel
theorem dX6_type_43 : decode cX6_type 43 = .ok (.aload_n 0, 1) := by decide +kernel
theorem dX6_type_44 : decode cX6_type 44 = .ok (.dup, 1) := by decide +kernel
theorem dX6_type_45 : decode cX6_type 45 = .ok (.getfield 231, 3) := by decide +kernel
theorem dX6_type_48 : decode cX6_type 48 = .ok (.iconst 1, 1) := by decide +kernel
theorem dX6_type_49 : decode cX6_type 49 = .ok (.iadd, 1) := by decide +kernel
theorem dX6_type_50 : decode cX6_type 50 = .ok (.putfield 231, 3) := by decide +kernel
theorem dX6_type_53 : decode cX6_type 53 = .ok (.aload_n 0, 1) := by decide +kernel
theorem dX6_type_54 : decode cX6_type 54 = .ok (.getfield 231, 3) := by decide +kernel
theorem dX6_type_57 : decode cX6_type 57 = .ok (.ireturn, 1) := by decide +kernel
theorem dX6_clear_0 : decode cX6_clear 0 = .ok (.aload_n 0, 1) := by decide +kernel
theorem dX6_clear_1 : decode cX6_clear 1 = .ok (.getfield 231, 3) := by decide +kernel
theorem dX6_clear_4 : decode cX6_clear 4 = .ok (.istore_n 1, 1) := by decide +kernel
theorem dX6_clear_5 : decode cX6_clear 5 = .ok (.aload_n 0, 1) := by decide +kernel
theorem dX6_clear_6 : decode cX6_clear 6 = .ok (.iconst 0, 1) := by decide +kernel
theorem dX6_clear_7 : decode cX6_clear 7 = .ok (.putfield 231, 3) := by decide +kernel
theorem dX6_clear_10 : decode cX6_clear 10 = .ok (.iload_n 1, 1) := by decide +kernel
theorem dX6_clear_11 : decode cX6_clear 11 = .ok (.ireturn, 1) := by decide +kernel
theorem dX6_tells_0 : decode cX6_tells 0 = .ok (.aload_n 0, 1) := by decide +kernel
theorem dX6_tells_1 : decode cX6_tells 1 = .ok (.getfield 234, 3) := by decide +kernel
theorem dX6_tells_4 : decode cX6_tells 4 = .ok (.sipush 300, 3) := by decide +kernel
theorem dX6_tells_7 : decode cX6_tells 7 = .ok (.if_icmp .ge 23, 3) := by decide +kernel
theorem dX6_tells_10 : decode cX6_tells 10 = .ok (.aload_n 0, 1) := by decide +kernel
theorem dX6_tells_11 : decode cX6_tells 11 = .ok (.getfield 32, 3) := by decide +kernel
theorem dX6_tells_14 : decode cX6_tells 14 = .ok (.aload_n 0, 1) := by decide +kernel
theorem dX6_tells_15 : decode cX6_tells 15 = .ok (.getfield 234, 3) := by decide +kernel
theorem dX6_tells_18 : decode cX6_tells 18 = .ok (.iload_n 1, 1) := by decide +kernel
theorem dX6_tells_19 : decode cX6_tells 19 = .ok (.iastore, 1) := by decide +kernel
theorem dX6_tells_20 : decode cX6_tells 20 = .ok (.aload_n 0, 1) := by decide +kernel
theorem dX6_tells_21 : decode cX6_tells 21 = .ok (.dup, 1) := by decide +kernel
theorem dX6_tells_22 : decode cX6_tells 22 = .ok (.getfield 234, 3) := by decide +kernel
theorem dX6_tells_25 : decode cX6_tells 25 = .ok (.iconst 1, 1) := by decide +kernel
theorem dX6_tells_26 : decode cX6_tells 26 = .ok (.iadd, 1) := by decide +kernel
theorem dX6_tells_27 : decode cX6_tells 27 = .ok (.putfield 234, 3) := by decide +kernel
theorem dX6_tells_30 : decode cX6_tells 30 = .ok (.return_, 1) := by decide +kernel
theorem dX6_tellsNumber_0 : decode cX6_tellsNumber 0 = .ok (.iload_n 1, 1) := by decide +kernel
theorem dX6_tellsNumber_1 : decode cX6_tellsNumber 1 = .ok (.bipush 9, 2) := by decide +kernel
theorem dX6_tellsNumber_3 : decode cX6_tellsNumber 3 = .ok (.if_icmp .le 14, 3) := by decide +kernel
theorem dX6_tellsNumber_6 : decode cX6_tellsNumber 6 = .ok (.aload_n 0, 1) := by decide +kernel
theorem dX6_tellsNumber_7 : decode cX6_tellsNumber 7 = .ok (.bipush 48, 2) := by decide +kernel
theorem dX6_tellsNumber_9 : decode cX6_tellsNumber 9 = .ok (.iload_n 1, 1) := by decide +kernel
theorem dX6_tellsNumber_10 : decode cX6_tellsNumber 10 = .ok (.bipush 10, 2) := by decide +kernel
theorem dX6_tellsNumber_12 : decode cX6_tellsNumber 12 = .ok (.idiv, 1) := by decide +kernel
theorem dX6_tellsNumber_13 : decode cX6_tellsNumber 13 = .ok (.iadd, 1) := by decide +kernel
theorem dX6_tellsNumber_14 : decode cX6_tellsNumber 14 = .ok (.invokevirtual 237, 3) := by decide +kernel
theorem dX6_tellsNumber_17 : decode cX6_tellsNumber 17 = .ok (.aload_n 0, 1) := by decide +kernel
theorem dX6_tellsNumber_18 : decode cX6_tellsNumber 18 = .ok (.bipush 48, 2) := by decide +kernel
theorem dX6_tellsNumber_20 : decode cX6_tellsNumber 20 = .ok (.iload_n 1, 1) := by decide +kernel
theorem dX6_tellsNumber_21 : decode cX6_tellsNumber 21 = .ok (.bipush 10, 2) := by decide +kernel
theorem dX6_tellsNumber_23 : decode cX6_tellsNumber 23 = .ok (.irem, 1) := by decide +kernel
theorem dX6_tellsNumber_24 : decode cX6_tellsNumber 24 = .ok (.iadd, 1) := by decide +kernel
theorem dX6_tellsNumber_25 : decode cX6_tellsNumber 25 = .ok (.invokevirtual 237, 3) := by decide +kernel
theorem dX6_tellsNumber_28 : decode cX6_tellsNumber 28 = .ok (.return_, 1) := by decide +kernel
theorem dX6_letters_0 : decode cX6_letters 0 = .ok (.iload_n 0, 1) := by decide +kernel
theorem dX6_letters_1 : decode cX6_letters 1 = .ok (.tableswitch 250 0 11 #[63, 77, 92, 109, 123, 140, 155, 171, 189, 204, 220, 235], 63) := by decide +kernel
theorem dX6_letters_64 : decode cX6_letters 64 = .ok (.bipush 114, 2) := by decide +kernel
theorem dX6_letters_66 : decode cX6_letters 66 = .ok (.bipush 111, 2) := by decide +kernel
theorem dX6_letters_68 : decode cX6_letters 68 = .ok (.bipush 119, 2) := by decide +kernel
theorem dX6_letters_70 : decode cX6_letters 70 = .ok (.iconst 0, 1) := by decide +kernel
theorem dX6_letters_71 : decode cX6_letters 71 = .ok (.iconst 0, 1) := by decide +kernel
theorem dX6_letters_72 : decode cX6_letters 72 = .ok (.iconst 0, 1) := by decide +kernel
theorem dX6_letters_73 : decode cX6_letters 73 = .ok (.iconst 0, 1) := by decide +kernel
theorem dX6_letters_74 : decode cX6_letters 74 = .ok (.invokestatic 241, 3) := by decide +kernel
theorem dX6_letters_77 : decode cX6_letters 77 = .ok (.lreturn, 1) := by decide +kernel
theorem dX6_letters_78 : decode cX6_letters 78 = .ok (.bipush 110, 2) := by decide +kernel
theorem dX6_letters_80 : decode cX6_letters 80 = .ok (.bipush 101, 2) := by decide +kernel
theorem dX6_letters_82 : decode cX6_letters 82 = .ok (.bipush 97, 2) := by decide +kernel
theorem dX6_letters_84 : decode cX6_letters 84 = .ok (.bipush 114, 2) := by decide +kernel
theorem dX6_letters_86 : decode cX6_letters 86 = .ok (.iconst 0, 1) := by decide +kernel
theorem dX6_letters_87 : decode cX6_letters 87 = .ok (.iconst 0, 1) := by decide +kernel
theorem dX6_letters_88 : decode cX6_letters 88 = .ok (.iconst 0, 1) := by decide +kernel
theorem dX6_letters_89 : decode cX6_letters 89 = .ok (.invokestatic 241, 3) := by decide +kernel
theorem dX6_letters_92 : decode cX6_letters 92 = .ok (.lreturn, 1) := by decide +kernel
theorem dX6_letters_93 : decode cX6_letters 93 = .ok (.bipush 115, 2) := by decide +kernel
theorem dX6_letters_95 : decode cX6_letters 95 = .ok (.bipush 116, 2) := by decide +kernel
theorem dX6_letters_97 : decode cX6_letters 97 = .ok (.bipush 114, 2) := by decide +kernel
theorem dX6_letters_99 : decode cX6_letters 99 = .ok (.bipush 97, 2) := by decide +kernel
theorem dX6_letters_101 : decode cX6_letters 101 = .ok (.bipush 116, 2) := by decide +kernel
theorem dX6_letters_103 : decode cX6_letters 103 = .ok (.bipush 97, 2) := by decide +kernel
theorem dX6_letters_105 : decode cX6_letters 105 = .ok (.iconst 0, 1) := by decide +kernel
theorem dX6_letters_106 : decode cX6_letters 106 = .ok (.invokestatic 241, 3) := by decide +kernel
theorem dX6_letters_109 : decode cX6_letters 109 = .ok (.lreturn, 1) := by decide +kernel
theorem dX6_letters_110 : decode cX6_letters 110 = .ok (.bipush 102, 2) := by decide +kernel
theorem dX6_letters_112 : decode cX6_letters 112 = .ok (.bipush 97, 2) := by decide +kernel
theorem dX6_letters_114 : decode cX6_letters 114 = .ok (.bipush 114, 2) := by decide +kernel
theorem dX6_letters_116 : decode cX6_letters 116 = .ok (.iconst 0, 1) := by decide +kernel
theorem dX6_letters_117 : decode cX6_letters 117 = .ok (.iconst 0, 1) := by decide +kernel
theorem dX6_letters_118 : decode cX6_letters 118 = .ok (.iconst 0, 1) := by decide +kernel
theorem dX6_letters_119 : decode cX6_letters 119 = .ok (.iconst 0, 1) := by decide +kernel
theorem dX6_letters_120 : decode cX6_letters 120 = .ok (.invokestatic 241, 3) := by decide +kernel
theorem dX6_letters_123 : decode cX6_letters 123 = .ok (.lreturn, 1) := by decide +kernel
theorem dX6_letters_124 : decode cX6_letters 124 = .ok (.bipush 99, 2) := by decide +kernel
theorem dX6_letters_126 : decode cX6_letters 126 = .ok (.bipush 104, 2) := by decide +kernel
theorem dX6_letters_128 : decode cX6_letters 128 = .ok (.bipush 97, 2) := by decide +kernel
theorem dX6_letters_130 : decode cX6_letters 130 = .ok (.bipush 110, 2) := by decide +kernel
theorem dX6_letters_132 : decode cX6_letters 132 = .ok (.bipush 99, 2) := by decide +kernel
theorem dX6_letters_134 : decode cX6_letters 134 = .ok (.bipush 101, 2) := by decide +kernel
theorem dX6_letters_136 : decode cX6_letters 136 = .ok (.iconst 0, 1) := by decide +kernel
theorem dX6_letters_137 : decode cX6_letters 137 = .ok (.invokestatic 241, 3) := by decide +kernel
theorem dX6_letters_140 : decode cX6_letters 140 = .ok (.lreturn, 1) := by decide +kernel
theorem dX6_letters_141 : decode cX6_letters 141 = .ok (.bipush 116, 2) := by decide +kernel
theorem dX6_letters_143 : decode cX6_letters 143 = .ok (.bipush 117, 2) := by decide +kernel
theorem dX6_letters_145 : decode cX6_letters 145 = .ok (.bipush 114, 2) := by decide +kernel
theorem dX6_letters_147 : decode cX6_letters 147 = .ok (.bipush 110, 2) := by decide +kernel
theorem dX6_letters_149 : decode cX6_letters 149 = .ok (.iconst 0, 1) := by decide +kernel
theorem dX6_letters_150 : decode cX6_letters 150 = .ok (.iconst 0, 1) := by decide +kernel
theorem dX6_letters_151 : decode cX6_letters 151 = .ok (.iconst 0, 1) := by decide +kernel
theorem dX6_letters_152 : decode cX6_letters 152 = .ok (.invokestatic 241, 3) := by decide +kernel
theorem dX6_letters_155 : decode cX6_letters 155 = .ok (.lreturn, 1) := by decide +kernel
theorem dX6_letters_156 : decode cX6_letters 156 = .ok (.bipush 112, 2) := by decide +kernel
theorem dX6_letters_158 : decode cX6_letters 158 = .ok (.bipush 108, 2) := by decide +kernel
theorem dX6_letters_160 : decode cX6_letters 160 = .ok (.bipush 97, 2) := by decide +kernel
theorem dX6_letters_162 : decode cX6_letters 162 = .ok (.bipush 99, 2) := by decide +kernel
theorem dX6_letters_164 : decode cX6_letters 164 = .ok (.bipush 101, 2) := by decide +kernel
theorem dX6_letters_166 : decode cX6_letters 166 = .ok (.iconst 0, 1) := by decide +kernel
theorem dX6_letters_167 : decode cX6_letters 167 = .ok (.iconst 0, 1) := by decide +kernel
theorem dX6_letters_168 : decode cX6_letters 168 = .ok (.invokestatic 241, 3) := by decide +kernel
theorem dX6_letters_171 : decode cX6_letters 171 = .ok (.lreturn, 1) := by decide +kernel
theorem dX6_letters_172 : decode cX6_letters 172 = .ok (.bipush 115, 2) := by decide +kernel
theorem dX6_letters_174 : decode cX6_letters 174 = .ok (.bipush 116, 2) := by decide +kernel
theorem dX6_letters_176 : decode cX6_letters 176 = .ok (.bipush 114, 2) := by decide +kernel
theorem dX6_letters_178 : decode cX6_letters 178 = .ok (.bipush 97, 2) := by decide +kernel
theorem dX6_letters_180 : decode cX6_letters 180 = .ok (.bipush 116, 2) := by decide +kernel
theorem dX6_letters_182 : decode cX6_letters 182 = .ok (.bipush 117, 2) := by decide +kernel
theorem dX6_letters_184 : decode cX6_letters 184 = .ok (.bipush 109, 2) := by decide +kernel
theorem dX6_letters_186 : decode cX6_letters 186 = .ok (.invokestatic 241, 3) := by decide +kernel
theorem dX6_letters_189 : decode cX6_letters 189 = .ok (.lreturn, 1) := by decide +kernel
theorem dX6_letters_190 : decode cX6_letters 190 = .ok (.bipush 115, 2) := by decide +kernel
theorem dX6_letters_192 : decode cX6_letters 192 = .ok (.bipush 105, 2) := by decide +kernel
theorem dX6_letters_194 : decode cX6_letters 194 = .ok (.bipush 122, 2) := by decide +kernel
theorem dX6_letters_196 : decode cX6_letters 196 = .ok (.bipush 101, 2) := by decide +kernel
theorem dX6_letters_198 : decode cX6_letters 198 = .ok (.iconst 0, 1) := by decide +kernel
theorem dX6_letters_199 : decode cX6_letters 199 = .ok (.iconst 0, 1) := by decide +kernel
theorem dX6_letters_200 : decode cX6_letters 200 = .ok (.iconst 0, 1) := by decide +kernel
theorem dX6_letters_201 : decode cX6_letters 201 = .ok (.invokestatic 241, 3) := by decide +kernel
theorem dX6_letters_204 : decode cX6_letters 204 = .ok (.lreturn, 1) := by decide +kernel
theorem dX6_letters_205 : decode cX6_letters 205 = .ok (.bipush 118, 2) := by decide +kernel
theorem dX6_letters_207 : decode cX6_letters 207 = .ok (.bipush 97, 2) := by decide +kernel
theorem dX6_letters_209 : decode cX6_letters 209 = .ok (.bipush 108, 2) := by decide +kernel
theorem dX6_letters_211 : decode cX6_letters 211 = .ok (.bipush 117, 2) := by decide +kernel
theorem dX6_letters_213 : decode cX6_letters 213 = .ok (.bipush 101, 2) := by decide +kernel
theorem dX6_letters_215 : decode cX6_letters 215 = .ok (.iconst 0, 1) := by decide +kernel
theorem dX6_letters_216 : decode cX6_letters 216 = .ok (.iconst 0, 1) := by decide +kernel
theorem dX6_letters_217 : decode cX6_letters 217 = .ok (.invokestatic 241, 3) := by decide +kernel
theorem dX6_letters_220 : decode cX6_letters 220 = .ok (.lreturn, 1) := by decide +kernel
theorem dX6_letters_221 : decode cX6_letters 221 = .ok (.bipush 117, 2) := by decide +kernel
theorem dX6_letters_223 : decode cX6_letters 223 = .ok (.bipush 110, 2) := by decide +kernel
theorem dX6_letters_225 : decode cX6_letters 225 = .ok (.bipush 105, 2) := by decide +kernel
theorem dX6_letters_227 : decode cX6_letters 227 = .ok (.bipush 116, 2) := by decide +kernel
theorem dX6_letters_229 : decode cX6_letters 229 = .ok (.iconst 0, 1) := by decide +kernel
theorem dX6_letters_230 : decode cX6_letters 230 = .ok (.iconst 0, 1) := by decide +kernel
theorem dX6_letters_231 : decode cX6_letters 231 = .ok (.iconst 0, 1) := by decide +kernel
theorem dX6_letters_232 : decode cX6_letters 232 = .ok (.invokestatic 241, 3) := by decide +kernel
theorem dX6_letters_235 : decode cX6_letters 235 = .ok (.lreturn, 1) := by decide +kernel
theorem dX6_letters_236 : decode cX6_letters 236 = .ok (.bipush 119, 2) := by decide +kernel
theorem dX6_letters_238 : decode cX6_letters 238 = .ok (.bipush 97, 2) := by decide +kernel
theorem dX6_letters_240 : decode cX6_letters 240 = .ok (.bipush 108, 2) := by decide +kernel
theorem dX6_letters_242 : decode cX6_letters 242 = .ok (.bipush 107, 2) := by decide +kernel
theorem dX6_letters_244 : decode cX6_letters 244 = .ok (.iconst 0, 1) := by decide +kernel
theorem dX6_letters_245 : decode cX6_letters 245 = .ok (.iconst 0, 1) := by decide +kernel
theorem dX6_letters_246 : decode cX6_letters 246 = .ok (.iconst 0, 1) := by decide +kernel
theorem dX6_letters_247 : decode cX6_letters 247 = .ok (.invokestatic 241, 3) := by decide +kernel
theorem dX6_letters_250 : decode cX6_letters 250 = .ok (.lreturn, 1) := by decide +kernel
theorem dX6_letters_251 : decode cX6_letters 251 = .ok (.bipush 109, 2) := by decide +kernel
theorem dX6_letters_253 : decode cX6_letters 253 = .ok (.bipush 97, 2) := by decide +kernel
theorem dX6_letters_255 : decode cX6_letters 255 = .ok (.bipush 110, 2) := by decide +kernel
theorem dX6_letters_257 : decode cX6_letters 257 = .ok (.bipush 121, 2) := by decide +kernel
theorem dX6_letters_259 : decode cX6_letters 259 = .ok (.iconst 0, 1) := by decide +kernel
theorem dX6_letters_260 : decode cX6_letters 260 = .ok (.iconst 0, 1) := by decide +kernel
theorem dX6_letters_261 : decode cX6_letters 261 = .ok (.iconst 0, 1) := by decide +kernel
theorem dX6_letters_262 : decode cX6_letters 262 = .ok (.invokestatic 241, 3) := by decide +kernel
theorem dX6_letters_265 : decode cX6_letters 265 = .ok (.lreturn, 1) := by decide +kernel
theorem dX6_by27_0 : decode cX6_by27 0 = .ok (.iload_n 2, 1) := by decide +kernel
theorem dX6_by27_1 : decode cX6_by27 1 = .ok (.ifCond .ne 7, 3) := by decide +kernel
theorem dX6_by27_4 : decode cX6_by27 4 = .ok (.lload_n 0, 1) := by decide +kernel
theorem dX6_by27_5 : decode cX6_by27 5 = .ok (.goto 17, 3) := by decide +kernel
theorem dX6_by27_8 : decode cX6_by27 8 = .ok (.ldc2_w 245, 3) := by decide +kernel
theorem dX6_by27_11 : decode cX6_by27 11 = .ok (.lload_n 0, 1) := by decide +kernel
theorem dX6_by27_12 : decode cX6_by27 12 = .ok (.lmul, 1) := by decide +kernel
theorem dX6_by27_13 : decode cX6_by27 13 = .ok (.iload_n 2, 1) := by decide +kernel
theorem dX6_by27_14 : decode cX6_by27 14 = .ok (.i2l, 1) := by decide +kernel
theorem dX6_by27_15 : decode cX6_by27 15 = .ok (.ladd, 1) := by decide +kernel
theorem dX6_by27_16 : decode cX6_by27 16 = .ok (.ldc2_w 247, 3) := by decide +kernel
theorem dX6_by27_19 : decode cX6_by27 19 = .ok (.lsub, 1) := by decide +kernel
theorem dX6_by27_20 : decode cX6_by27 20 = .ok (.lconst 1, 1) := by decide +kernel
theorem dX6_by27_21 : decode cX6_by27 21 = .ok (.ladd, 1) := by decide +kernel
theorem dX6_by27_22 : decode cX6_by27 22 = .ok (.lreturn, 1) := by decide +kernel
theorem dX6_spells_0 : decode cX6_spells 0 = .ok (.lconst 0, 1) := by decide +kernel
theorem dX6_spells_1 : decode cX6_spells 1 = .ok (.iload_n 0, 1) := by decide +kernel
theorem dX6_spells_2 : decode cX6_spells 2 = .ok (.invokestatic 249, 3) := by decide +kernel
theorem dX6_spells_5 : decode cX6_spells 5 = .ok (.iload_n 1, 1) := by decide +kernel
theorem dX6_spells_6 : decode cX6_spells 6 = .ok (.invokestatic 249, 3) := by decide +kernel
theorem dX6_spells_9 : decode cX6_spells 9 = .ok (.iload_n 2, 1) := by decide +kernel
theorem dX6_spells_10 : decode cX6_spells 10 = .ok (.invokestatic 249, 3) := by decide +kernel
theorem dX6_spells_13 : decode cX6_spells 13 = .ok (.iload_n 3, 1) := by decide +kernel
theorem dX6_spells_14 : decode cX6_spells 14 = .ok (.invokestatic 249, 3) := by decide +kernel
theorem dX6_spells_17 : decode cX6_spells 17 = .ok (.iload 4, 2) := by decide +kernel
theorem dX6_spells_19 : decode cX6_spells 19 = .ok (.invokestatic 249, 3) := by decide +kernel
theorem dX6_spells_22 : decode cX6_spells 22 = .ok (.iload 5, 2) := by decide +kernel
theorem dX6_spells_24 : decode cX6_spells 24 = .ok (.invokestatic 249, 3) := by decide +kernel
theorem dX6_spells_27 : decode cX6_spells 27 = .ok (.iload 6, 2) := by decide +kernel
theorem dX6_spells_29 : decode cX6_spells 29 = .ok (.invokestatic 249, 3) := by decide +kernel
theorem dX6_spells_32 : decode cX6_spells 32 = .ok (.lreturn, 1) := by decide +kernel
theorem dX6_tellsWord_0 : decode cX6_tellsWord 0 = .ok (.iload_n 1, 1) := by decide +kernel
theorem dX6_tellsWord_1 : decode cX6_tellsWord 1 = .ok (.invokestatic 253, 3) := by decide +kernel
theorem dX6_tellsWord_4 : decode cX6_tellsWord 4 = .ok (.lstore_n 2, 1) := by decide +kernel
theorem dX6_tellsWord_5 : decode cX6_tellsWord 5 = .ok (.lconst 1, 1) := by decide +kernel
theorem dX6_tellsWord_6 : decode cX6_tellsWord 6 = .ok (.lstore 4, 2) := by decide +kernel
theorem dX6_tellsWord_8 : decode cX6_tellsWord 8 = .ok (.lload 4, 2) := by decide +kernel
theorem dX6_tellsWord_10 : decode cX6_tellsWord 10 = .ok (.ldc2_w 245, 3) := by decide +kernel
theorem dX6_tellsWord_13 : decode cX6_tellsWord 13 = .ok (.lmul, 1) := by decide +kernel
theorem dX6_tellsWord_14 : decode cX6_tellsWord 14 = .ok (.lload_n 2, 1) := by decide +kernel
theorem dX6_tellsWord_15 : decode cX6_tellsWord 15 = .ok (.lcmp, 1) := by decide +kernel
theorem dX6_tellsWord_16 : decode cX6_tellsWord 16 = .ok (.ifCond .gt 14, 3) := by decide +kernel
theorem dX6_tellsWord_19 : decode cX6_tellsWord 19 = .ok (.lload 4, 2) := by decide +kernel
theorem dX6_tellsWord_21 : decode cX6_tellsWord 21 = .ok (.ldc2_w 245, 3) := by decide +kernel
theorem dX6_tellsWord_24 : decode cX6_tellsWord 24 = .ok (.lmul, 1) := by decide +kernel
theorem dX6_tellsWord_25 : decode cX6_tellsWord 25 = .ok (.lstore 4, 2) := by decide +kernel
theorem dX6_tellsWord_27 : decode cX6_tellsWord 27 = .ok (.goto (-19), 3) := by decide +kernel
theorem dX6_tellsWord_30 : decode cX6_tellsWord 30 = .ok (.lload 4, 2) := by decide +kernel
theorem dX6_tellsWord_32 : decode cX6_tellsWord 32 = .ok (.lconst 0, 1) := by decide +kernel
theorem dX6_tellsWord_33 : decode cX6_tellsWord 33 = .ok (.lcmp, 1) := by decide +kernel
theorem dX6_tellsWord_34 : decode cX6_tellsWord 34 = .ok (.ifCond .le 33, 3) := by decide +kernel
theorem dX6_tellsWord_37 : decode cX6_tellsWord 37 = .ok (.aload_n 0, 1) := by decide +kernel
theorem dX6_tellsWord_38 : decode cX6_tellsWord 38 = .ok (.lload_n 2, 1) := by decide +kernel
theorem dX6_tellsWord_39 : decode cX6_tellsWord 39 = .ok (.lload 4, 2) := by decide +kernel
theorem dX6_tellsWord_41 : decode cX6_tellsWord 41 = .ok (.ldiv, 1) := by decide +kernel
theorem dX6_tellsWord_42 : decode cX6_tellsWord 42 = .ok (.l2i, 1) := by decide +kernel
theorem dX6_tellsWord_43 : decode cX6_tellsWord 43 = .ok (.bipush 97, 2) := by decide +kernel
theorem dX6_tellsWord_45 : decode cX6_tellsWord 45 = .ok (.iadd, 1) := by decide +kernel
theorem dX6_tellsWord_46 : decode cX6_tellsWord 46 = .ok (.iconst 1, 1) := by decide +kernel
theorem dX6_tellsWord_47 : decode cX6_tellsWord 47 = .ok (.isub, 1) := by decide +kernel
theorem dX6_tellsWord_48 : decode cX6_tellsWord 48 = .ok (.invokevirtual 237, 3) := by decide +kernel
theorem dX6_tellsWord_51 : decode cX6_tellsWord 51 = .ok (.lload_n 2, 1) := by decide +kernel
theorem dX6_tellsWord_52 : decode cX6_tellsWord 52 = .ok (.lload 4, 2) := by decide +kernel
theorem dX6_tellsWord_54 : decode cX6_tellsWord 54 = .ok (.lrem, 1) := by decide +kernel
theorem dX6_tellsWord_55 : decode cX6_tellsWord 55 = .ok (.lstore_n 2, 1) := by decide +kernel
theorem dX6_tellsWord_56 : decode cX6_tellsWord 56 = .ok (.lload 4, 2) := by decide +kernel
theorem dX6_tellsWord_58 : decode cX6_tellsWord 58 = .ok (.ldc2_w 245, 3) := by decide +kernel
theorem dX6_tellsWord_61 : decode cX6_tellsWord 61 = .ok (.ldiv, 1) := by decide +kernel
theorem dX6_tellsWord_62 : decode cX6_tellsWord 62 = .ok (.lstore 4, 2) := by decide +kernel
theorem dX6_tellsWord_64 : decode cX6_tellsWord 64 = .ok (.goto (-34), 3) := by decide +kernel
theorem dX6_tellsWord_67 : decode cX6_tellsWord 67 = .ok (.return_, 1) := by decide +kernel
theorem dX6_skip_0 : decode cX6_skip 0 = .ok (.aload_n 0, 1) := by decide +kernel
theorem dX6_skip_1 : decode cX6_skip 1 = .ok (.getfield 256, 3) := by decide +kernel
theorem dX6_skip_4 : decode cX6_skip 4 = .ok (.aload_n 0, 1) := by decide +kernel
theorem dX6_skip_5 : decode cX6_skip 5 = .ok (.getfield 231, 3) := by decide +kernel
theorem dX6_skip_8 : decode cX6_skip 8 = .ok (.if_icmp .ge 30, 3) := by decide +kernel
theorem dX6_skip_11 : decode cX6_skip 11 = .ok (.aload_n 0, 1) := by decide +kernel
theorem dX6_skip_12 : decode cX6_skip 12 = .ok (.getfield 29, 3) := by decide +kernel
theorem dX6_skip_15 : decode cX6_skip 15 = .ok (.aload_n 0, 1) := by decide +kernel
theorem dX6_skip_16 : decode cX6_skip 16 = .ok (.getfield 256, 3) := by decide +kernel
theorem dX6_skip_19 : decode cX6_skip 19 = .ok (.iaload, 1) := by decide +kernel
theorem dX6_skip_20 : decode cX6_skip 20 = .ok (.bipush 32, 2) := by decide +kernel
theorem dX6_skip_22 : decode cX6_skip 22 = .ok (.if_icmp .ne 16, 3) := by decide +kernel
theorem dX6_skip_25 : decode cX6_skip 25 = .ok (.aload_n 0, 1) := by decide +kernel
theorem dX6_skip_26 : decode cX6_skip 26 = .ok (.dup, 1) := by decide +kernel
theorem dX6_skip_27 : decode cX6_skip 27 = .ok (.getfield 256, 3) := by decide +kernel
theorem dX6_skip_30 : decode cX6_skip 30 = .ok (.iconst 1, 1) := by decide +kernel
theorem dX6_skip_31 : decode cX6_skip 31 = .ok (.iadd, 1) := by decide +kernel
theorem dX6_skip_32 : decode cX6_skip 32 = .ok (.putfield 256, 3) := by decide +kernel
theorem dX6_skip_35 : decode cX6_skip 35 = .ok (.goto (-35), 3) := by decide +kernel
theorem dX6_skip_38 : decode cX6_skip 38 = .ok (.return_, 1) := by decide +kernel
theorem dX6_isByte_0 : decode cX6_isByte 0 = .ok (.iload_n 1, 1) := by decide +kernel
theorem dX6_isByte_1 : decode cX6_isByte 1 = .ok (.aload_n 0, 1) := by decide +kernel
theorem dX6_isByte_2 : decode cX6_isByte 2 = .ok (.getfield 231, 3) := by decide +kernel
theorem dX6_isByte_5 : decode cX6_isByte 5 = .ok (.if_icmp .ge 24, 3) := by decide +kernel
theorem dX6_isByte_8 : decode cX6_isByte 8 = .ok (.aload_n 0, 1) := by decide +kernel
theorem dX6_isByte_9 : decode cX6_isByte 9 = .ok (.getfield 29, 3) := by decide +kernel
theorem dX6_isByte_12 : decode cX6_isByte 12 = .ok (.iload_n 1, 1) := by decide +kernel
theorem dX6_isByte_13 : decode cX6_isByte 13 = .ok (.iaload, 1) := by decide +kernel
theorem dX6_isByte_14 : decode cX6_isByte 14 = .ok (.i2l, 1) := by decide +kernel
theorem dX6_isByte_15 : decode cX6_isByte 15 = .ok (.iload_n 2, 1) := by decide +kernel
theorem dX6_isByte_16 : decode cX6_isByte 16 = .ok (.i2l, 1) := by decide +kernel
theorem dX6_isByte_17 : decode cX6_isByte 17 = .ok (.iload_n 3, 1) := by decide +kernel
theorem dX6_isByte_18 : decode cX6_isByte 18 = .ok (.i2l, 1) := by decide +kernel
theorem dX6_isByte_19 : decode cX6_isByte 19 = .ok (.invokestatic 42, 3) := by decide +kernel
theorem dX6_isByte_22 : decode cX6_isByte 22 = .ok (.ifCond .eq 7, 3) := by decide +kernel
theorem dX6_isByte_25 : decode cX6_isByte 25 = .ok (.iconst 1, 1) := by decide +kernel
theorem dX6_isByte_26 : decode cX6_isByte 26 = .ok (.goto 4, 3) := by decide +kernel
theorem dX6_isByte_29 : decode cX6_isByte 29 = .ok (.iconst 0, 1) := by decide +kernel
theorem dX6_isByte_30 : decode cX6_isByte 30 = .ok (.ireturn, 1) := by decide +kernel
theorem dX6_takesWord_0 : decode cX6_takesWord 0 = .ok (.aload_n 0, 1) := by decide +kernel
theorem dX6_takesWord_1 : decode cX6_takesWord 1 = .ok (.invokevirtual 259, 3) := by decide +kernel
theorem dX6_takesWord_4 : decode cX6_takesWord 4 = .ok (.aload_n 0, 1) := by decide +kernel
theorem dX6_takesWord_5 : decode cX6_takesWord 5 = .ok (.getfield 256, 3) := by decide +kernel
theorem dX6_takesWord_8 : decode cX6_takesWord 8 = .ok (.istore_n 1, 1) := by decide +kernel
theorem dX6_takesWord_9 : decode cX6_takesWord 9 = .ok (.lconst 0, 1) := by decide +kernel
theorem dX6_takesWord_10 : decode cX6_takesWord 10 = .ok (.lstore_n 2, 1) := by decide +kernel
theorem dX6_takesWord_11 : decode cX6_takesWord 11 = .ok (.aload_n 0, 1) := by decide +kernel
theorem dX6_takesWord_12 : decode cX6_takesWord 12 = .ok (.iload_n 1, 1) := by decide +kernel
theorem dX6_takesWord_13 : decode cX6_takesWord 13 = .ok (.bipush 97, 2) := by decide +kernel
theorem dX6_takesWord_15 : decode cX6_takesWord 15 = .ok (.bipush 122, 2) := by decide +kernel
theorem dX6_takesWord_17 : decode cX6_takesWord 17 = .ok (.invokevirtual 262, 3) := by decide +kernel
theorem dX6_takesWord_20 : decode cX6_takesWord 20 = .ok (.ifCond .eq 31, 3) := by decide +kernel
theorem dX6_takesWord_23 : decode cX6_takesWord 23 = .ok (.iload_n 1, 1) := by decide +kernel
theorem dX6_takesWord_24 : decode cX6_takesWord 24 = .ok (.aload_n 0, 1) := by decide +kernel
theorem dX6_takesWord_25 : decode cX6_takesWord 25 = .ok (.getfield 256, 3) := by decide +kernel
theorem dX6_takesWord_28 : decode cX6_takesWord 28 = .ok (.isub, 1) := by decide +kernel
theorem dX6_takesWord_29 : decode cX6_takesWord 29 = .ok (.bipush 8, 2) := by decide +kernel
theorem dX6_takesWord_31 : decode cX6_takesWord 31 = .ok (.if_icmp .ge 20, 3) := by decide +kernel
theorem dX6_takesWord_34 : decode cX6_takesWord 34 = .ok (.lload_n 2, 1) := by decide +kernel
theorem dX6_takesWord_35 : decode cX6_takesWord 35 = .ok (.aload_n 0, 1) := by decide +kernel
theorem dX6_takesWord_36 : decode cX6_takesWord 36 = .ok (.getfield 29, 3) := by decide +kernel
theorem dX6_takesWord_39 : decode cX6_takesWord 39 = .ok (.iload_n 1, 1) := by decide +kernel
theorem dX6_takesWord_40 : decode cX6_takesWord 40 = .ok (.iaload, 1) := by decide +kernel
theorem dX6_takesWord_41 : decode cX6_takesWord 41 = .ok (.invokestatic 249, 3) := by decide +kernel
theorem dX6_takesWord_44 : decode cX6_takesWord 44 = .ok (.lstore_n 2, 1) := by decide +kernel
theorem dX6_takesWord_45 : decode cX6_takesWord 45 = .ok (.iinc 1 1, 3) := by decide +kernel
theorem dX6_takesWord_48 : decode cX6_takesWord 48 = .ok (.goto (-37), 3) := by decide +kernel
theorem dX6_takesWord_51 : decode cX6_takesWord 51 = .ok (.iconst (-1), 1) := by decide +kernel
theorem dX6_takesWord_52 : decode cX6_takesWord 52 = .ok (.istore 4, 2) := by decide +kernel
theorem dX6_takesWord_54 : decode cX6_takesWord 54 = .ok (.iconst 0, 1) := by decide +kernel
theorem dX6_takesWord_55 : decode cX6_takesWord 55 = .ok (.istore 5, 2) := by decide +kernel
theorem dX6_takesWord_57 : decode cX6_takesWord 57 = .ok (.iload 5, 2) := by decide +kernel
theorem dX6_takesWord_59 : decode cX6_takesWord 59 = .ok (.bipush 13, 2) := by decide +kernel
theorem dX6_takesWord_61 : decode cX6_takesWord 61 = .ok (.if_icmp .ge 40, 3) := by decide +kernel
theorem dX6_takesWord_64 : decode cX6_takesWord 64 = .ok (.iload 5, 2) := by decide +kernel
theorem dX6_takesWord_66 : decode cX6_takesWord 66 = .ok (.invokestatic 253, 3) := by decide +kernel
theorem dX6_takesWord_69 : decode cX6_takesWord 69 = .ok (.lload_n 2, 1) := by decide +kernel
theorem dX6_takesWord_70 : decode cX6_takesWord 70 = .ok (.lcmp, 1) := by decide +kernel
theorem dX6_takesWord_71 : decode cX6_takesWord 71 = .ok (.ifCond .ne 20, 3) := by decide +kernel
theorem dX6_takesWord_74 : decode cX6_takesWord 74 = .ok (.aload_n 0, 1) := by decide +kernel
theorem dX6_takesWord_75 : decode cX6_takesWord 75 = .ok (.iload_n 1, 1) := by decide +kernel
theorem dX6_takesWord_76 : decode cX6_takesWord 76 = .ok (.bipush 97, 2) := by decide +kernel
theorem dX6_takesWord_78 : decode cX6_takesWord 78 = .ok (.bipush 122, 2) := by decide +kernel
theorem dX6_takesWord_80 : decode cX6_takesWord 80 = .ok (.invokevirtual 262, 3) := by decide +kernel
theorem dX6_takesWord_83 : decode cX6_takesWord 83 = .ok (.ifCond .ne 8, 3) := by decide +kernel
theorem dX6_takesWord_86 : decode cX6_takesWord 86 = .ok (.iload 5, 2) := by decide +kernel
theorem dX6_takesWord_88 : decode cX6_takesWord 88 = .ok (.goto 5, 3) := by decide +kernel
theorem dX6_takesWord_91 : decode cX6_takesWord 91 = .ok (.iload 4, 2) := by decide +kernel
theorem dX6_takesWord_93 : decode cX6_takesWord 93 = .ok (.istore 4, 2) := by decide +kernel
theorem dX6_takesWord_95 : decode cX6_takesWord 95 = .ok (.iinc 5 1, 3) := by decide +kernel
theorem dX6_takesWord_98 : decode cX6_takesWord 98 = .ok (.goto (-41), 3) := by decide +kernel
theorem dX6_takesWord_101 : decode cX6_takesWord 101 = .ok (.aload_n 0, 1) := by decide +kernel
theorem dX6_takesWord_102 : decode cX6_takesWord 102 = .ok (.iload 4, 2) := by decide +kernel
theorem dX6_takesWord_104 : decode cX6_takesWord 104 = .ok (.iconst (-1), 1) := by decide +kernel
theorem dX6_takesWord_105 : decode cX6_takesWord 105 = .ok (.if_icmp .ne 10, 3) := by decide +kernel
theorem dX6_takesWord_108 : decode cX6_takesWord 108 = .ok (.aload_n 0, 1) := by decide +kernel
theorem dX6_takesWord_109 : decode cX6_takesWord 109 = .ok (.getfield 256, 3) := by decide +kernel
theorem dX6_takesWord_112 : decode cX6_takesWord 112 = .ok (.goto 4, 3) := by decide +kernel
theorem dX6_takesWord_115 : decode cX6_takesWord 115 = .ok (.iload_n 1, 1) := by decide +kernel
theorem dX6_takesWord_116 : decode cX6_takesWord 116 = .ok (.putfield 256, 3) := by decide +kernel
theorem dX6_takesWord_119 : decode cX6_takesWord 119 = .ok (.iload 4, 2) := by decide +kernel
theorem dX6_takesWord_121 : decode cX6_takesWord 121 = .ok (.ireturn, 1) := by decide +kernel
theorem dX6_takesNumber_0 : decode cX6_takesNumber 0 = .ok (.aload_n 0, 1) := by decide +kernel
theorem dX6_takesNumber_1 : decode cX6_takesNumber 1 = .ok (.invokevirtual 259, 3) := by decide +kernel
theorem dX6_takesNumber_4 : decode cX6_takesNumber 4 = .ok (.aload_n 0, 1) := by decide +kernel
theorem dX6_takesNumber_5 : decode cX6_takesNumber 5 = .ok (.getfield 256, 3) := by decide +kernel
theorem dX6_takesNumber_8 : decode cX6_takesNumber 8 = .ok (.istore_n 3, 1) := by decide +kernel
theorem dX6_takesNumber_9 : decode cX6_takesNumber 9 = .ok (.iconst 0, 1) := by decide +kernel
theorem dX6_takesNumber_10 : decode cX6_takesNumber 10 = .ok (.istore 4, 2) := by decide +kernel
theorem dX6_takesNumber_12 : decode cX6_takesNumber 12 = .ok (.aload_n 0, 1) := by decide +kernel
theorem dX6_takesNumber_13 : decode cX6_takesNumber 13 = .ok (.iload_n 3, 1) := by decide +kernel
theorem dX6_takesNumber_14 : decode cX6_takesNumber 14 = .ok (.bipush 48, 2) := by decide +kernel
theorem dX6_takesNumber_16 : decode cX6_takesNumber 16 = .ok (.bipush 57, 2) := by decide +kernel
theorem dX6_takesNumber_18 : decode cX6_takesNumber 18 = .ok (.invokevirtual 262, 3) := by decide +kernel
theorem dX6_takesNumber_21 : decode cX6_takesNumber 21 = .ok (.ifCond .eq 37, 3) := by decide +kernel
theorem dX6_takesNumber_24 : decode cX6_takesNumber 24 = .ok (.iload_n 3, 1) := by decide +kernel
theorem dX6_takesNumber_25 : decode cX6_takesNumber 25 = .ok (.aload_n 0, 1) := by decide +kernel
theorem dX6_takesNumber_26 : decode cX6_takesNumber 26 = .ok (.getfield 256, 3) := by decide +kernel
theorem dX6_takesNumber_29 : decode cX6_takesNumber 29 = .ok (.isub, 1) := by decide +kernel
theorem dX6_takesNumber_30 : decode cX6_takesNumber 30 = .ok (.bipush 7, 2) := by decide +kernel
theorem dX6_takesNumber_32 : decode cX6_takesNumber 32 = .ok (.if_icmp .ge 26, 3) := by decide +kernel
theorem dX6_takesNumber_35 : decode cX6_takesNumber 35 = .ok (.bipush 10, 2) := by decide +kernel
theorem dX6_takesNumber_37 : decode cX6_takesNumber 37 = .ok (.iload 4, 2) := by decide +kernel
theorem dX6_takesNumber_39 : decode cX6_takesNumber 39 = .ok (.imul, 1) := by decide +kernel
theorem dX6_takesNumber_40 : decode cX6_takesNumber 40 = .ok (.aload_n 0, 1) := by decide +kernel
theorem dX6_takesNumber_41 : decode cX6_takesNumber 41 = .ok (.getfield 29, 3) := by decide +kernel
theorem dX6_takesNumber_44 : decode cX6_takesNumber 44 = .ok (.iload_n 3, 1) := by decide +kernel
theorem dX6_takesNumber_45 : decode cX6_takesNumber 45 = .ok (.iaload, 1) := by decide +kernel
theorem dX6_takesNumber_46 : decode cX6_takesNumber 46 = .ok (.iadd, 1) := by decide +kernel
theorem dX6_takesNumber_47 : decode cX6_takesNumber 47 = .ok (.bipush 48, 2) := by decide +kernel
theorem dX6_takesNumber_49 : decode cX6_takesNumber 49 = .ok (.isub, 1) := by decide +kernel
theorem dX6_takesNumber_50 : decode cX6_takesNumber 50 = .ok (.istore 4, 2) := by decide +kernel
theorem dX6_takesNumber_52 : decode cX6_takesNumber 52 = .ok (.iinc 3 1, 3) := by decide +kernel
theorem dX6_takesNumber_55 : decode cX6_takesNumber 55 = .ok (.goto (-43), 3) := by decide +kernel
theorem dX6_takesNumber_58 : decode cX6_takesNumber 58 = .ok (.iload_n 3, 1) := by decide +kernel
theorem dX6_takesNumber_59 : decode cX6_takesNumber 59 = .ok (.aload_n 0, 1) := by decide +kernel
theorem dX6_takesNumber_60 : decode cX6_takesNumber 60 = .ok (.getfield 256, 3) := by decide +kernel
theorem dX6_takesNumber_63 : decode cX6_takesNumber 63 = .ok (.isub, 1) := by decide +kernel
theorem dX6_takesNumber_64 : decode cX6_takesNumber 64 = .ok (.i2l, 1) := by decide +kernel
theorem dX6_takesNumber_65 : decode cX6_takesNumber 65 = .ok (.lconst 1, 1) := by decide +kernel
theorem dX6_takesNumber_66 : decode cX6_takesNumber 66 = .ok (.iload_n 1, 1) := by decide +kernel
theorem dX6_takesNumber_67 : decode cX6_takesNumber 67 = .ok (.i2l, 1) := by decide +kernel
theorem dX6_takesNumber_68 : decode cX6_takesNumber 68 = .ok (.invokestatic 42, 3) := by decide +kernel
theorem dX6_takesNumber_71 : decode cX6_takesNumber 71 = .ok (.ifCond .eq 25, 3) := by decide +kernel
theorem dX6_takesNumber_74 : decode cX6_takesNumber 74 = .ok (.iload 4, 2) := by decide +kernel
theorem dX6_takesNumber_76 : decode cX6_takesNumber 76 = .ok (.iload_n 2, 1) := by decide +kernel
theorem dX6_takesNumber_77 : decode cX6_takesNumber 77 = .ok (.if_icmp .gt 19, 3) := by decide +kernel
theorem dX6_takesNumber_80 : decode cX6_takesNumber 80 = .ok (.aload_n 0, 1) := by decide +kernel
theorem dX6_takesNumber_81 : decode cX6_takesNumber 81 = .ok (.iload_n 3, 1) := by decide +kernel
theorem dX6_takesNumber_82 : decode cX6_takesNumber 82 = .ok (.bipush 48, 2) := by decide +kernel
theorem dX6_takesNumber_84 : decode cX6_takesNumber 84 = .ok (.bipush 57, 2) := by decide +kernel
theorem dX6_takesNumber_86 : decode cX6_takesNumber 86 = .ok (.invokevirtual 262, 3) := by decide +kernel
theorem dX6_takesNumber_89 : decode cX6_takesNumber 89 = .ok (.ifCond .ne 7, 3) := by decide +kernel
theorem dX6_takesNumber_92 : decode cX6_takesNumber 92 = .ok (.iconst 1, 1) := by decide +kernel
theorem dX6_takesNumber_93 : decode cX6_takesNumber 93 = .ok (.goto 4, 3) := by decide +kernel
theorem dX6_takesNumber_96 : decode cX6_takesNumber 96 = .ok (.iconst 0, 1) := by decide +kernel
theorem dX6_takesNumber_97 : decode cX6_takesNumber 97 = .ok (.istore 5, 2) := by decide +kernel
theorem dX6_takesNumber_99 : decode cX6_takesNumber 99 = .ok (.aload_n 0, 1) := by decide +kernel
theorem dX6_takesNumber_100 : decode cX6_takesNumber 100 = .ok (.iload 5, 2) := by decide +kernel
theorem dX6_takesNumber_102 : decode cX6_takesNumber 102 = .ok (.ifCond .eq 7, 3) := by decide +kernel
theorem dX6_takesNumber_105 : decode cX6_takesNumber 105 = .ok (.iload_n 3, 1) := by decide +kernel
theorem dX6_takesNumber_106 : decode cX6_takesNumber 106 = .ok (.goto 7, 3) := by decide +kernel
theorem dX6_takesNumber_109 : decode cX6_takesNumber 109 = .ok (.aload_n 0, 1) := by decide +kernel
theorem dX6_takesNumber_110 : decode cX6_takesNumber 110 = .ok (.getfield 256, 3) := by decide +kernel
theorem dX6_takesNumber_113 : decode cX6_takesNumber 113 = .ok (.putfield 256, 3) := by decide +kernel
theorem dX6_takesNumber_116 : decode cX6_takesNumber 116 = .ok (.iload 5, 2) := by decide +kernel
theorem dX6_takesNumber_118 : decode cX6_takesNumber 118 = .ok (.ifCond .eq 8, 3) := by decide +kernel
theorem dX6_takesNumber_121 : decode cX6_takesNumber 121 = .ok (.iload 4, 2) := by decide +kernel
theorem dX6_takesNumber_123 : decode cX6_takesNumber 123 = .ok (.goto 4, 3) := by decide +kernel
theorem dX6_takesNumber_126 : decode cX6_takesNumber 126 = .ok (.iconst (-1), 1) := by decide +kernel
theorem dX6_takesNumber_127 : decode cX6_takesNumber 127 = .ok (.ireturn, 1) := by decide +kernel
theorem dX6_argsOf_0 : decode cX6_argsOf 0 = .ok (.iload_n 1, 1) := by decide +kernel
theorem dX6_argsOf_1 : decode cX6_argsOf 1 = .ok (.iconst 5, 1) := by decide +kernel
theorem dX6_argsOf_2 : decode cX6_argsOf 2 = .ok (.if_icmp .lt 9, 3) := by decide +kernel
theorem dX6_argsOf_5 : decode cX6_argsOf 5 = .ok (.iload_n 1, 1) := by decide +kernel
theorem dX6_argsOf_6 : decode cX6_argsOf 6 = .ok (.bipush 12, 2) := by decide +kernel
theorem dX6_argsOf_8 : decode cX6_argsOf 8 = .ok (.if_icmp .ne 7, 3) := by decide +kernel
theorem dX6_argsOf_11 : decode cX6_argsOf 11 = .ok (.iconst 0, 1) := by decide +kernel
theorem dX6_argsOf_12 : decode cX6_argsOf 12 = .ok (.goto 24, 3) := by decide +kernel
theorem dX6_argsOf_15 : decode cX6_argsOf 15 = .ok (.iload_n 1, 1) := by decide +kernel
theorem dX6_argsOf_16 : decode cX6_argsOf 16 = .ok (.bipush 10, 2) := by decide +kernel
theorem dX6_argsOf_18 : decode cX6_argsOf 18 = .ok (.if_icmp .ge 7, 3) := by decide +kernel
theorem dX6_argsOf_21 : decode cX6_argsOf 21 = .ok (.iconst 2, 1) := by decide +kernel
theorem dX6_argsOf_22 : decode cX6_argsOf 22 = .ok (.goto 14, 3) := by decide +kernel
theorem dX6_argsOf_25 : decode cX6_argsOf 25 = .ok (.iload_n 1, 1) := by decide +kernel
theorem dX6_argsOf_26 : decode cX6_argsOf 26 = .ok (.bipush 10, 2) := by decide +kernel
theorem dX6_argsOf_28 : decode cX6_argsOf 28 = .ok (.if_icmp .ne 7, 3) := by decide +kernel
theorem dX6_argsOf_31 : decode cX6_argsOf 31 = .ok (.iconst 5, 1) := by decide +kernel
theorem dX6_argsOf_32 : decode cX6_argsOf 32 = .ok (.goto 4, 3) := by decide +kernel
theorem dX6_argsOf_35 : decode cX6_argsOf 35 = .ok (.iconst 1, 1) := by decide +kernel
theorem dX6_argsOf_36 : decode cX6_argsOf 36 = .ok (.ireturn, 1) := by decide +kernel
theorem dX6_mostAt_0 : decode cX6_mostAt 0 = .ok (.iload_n 1, 1) := by decide +kernel
theorem dX6_mostAt_1 : decode cX6_mostAt 1 = .ok (.bipush 11, 2) := by decide +kernel
theorem dX6_mostAt_3 : decode cX6_mostAt 3 = .ok (.if_icmp .ne 7, 3) := by decide +kernel
theorem dX6_mostAt_6 : decode cX6_mostAt 6 = .ok (.ldc_w 266, 3) := by decide +kernel
theorem dX6_mostAt_9 : decode cX6_mostAt 9 = .ok (.ireturn, 1) := by decide +kernel
theorem dX6_mostAt_10 : decode cX6_mostAt 10 = .ok (.iload_n 1, 1) := by decide +kernel
theorem dX6_mostAt_11 : decode cX6_mostAt 11 = .ok (.bipush 10, 2) := by decide +kernel
theorem dX6_mostAt_13 : decode cX6_mostAt 13 = .ok (.if_icmp .ne 10, 3) := by decide +kernel
theorem dX6_mostAt_16 : decode cX6_mostAt 16 = .ok (.iload_n 2, 1) := by decide +kernel
theorem dX6_mostAt_17 : decode cX6_mostAt 17 = .ok (.invokestatic 46, 3) := by decide +kernel
theorem dX6_mostAt_20 : decode cX6_mostAt 20 = .ok (.goto 19, 3) := by decide +kernel
theorem dX6_mostAt_23 : decode cX6_mostAt 23 = .ok (.iload_n 2, 1) := by decide +kernel
theorem dX6_mostAt_24 : decode cX6_mostAt 24 = .ok (.ifCond .ne 9, 3) := by decide +kernel
theorem dX6_mostAt_27 : decode cX6_mostAt 27 = .ok (.iload_n 3, 1) := by decide +kernel
theorem dX6_mostAt_28 : decode cX6_mostAt 28 = .ok (.iconst 1, 1) := by decide +kernel
theorem dX6_mostAt_29 : decode cX6_mostAt 29 = .ok (.isub, 1) := by decide +kernel
theorem dX6_mostAt_30 : decode cX6_mostAt 30 = .ok (.goto 9, 3) := by decide +kernel
theorem dX6_mostAt_33 : decode cX6_mostAt 33 = .ok (.iload_n 1, 1) := by decide +kernel
theorem dX6_mostAt_34 : decode cX6_mostAt 34 = .ok (.iconst 5, 1) := by decide +kernel
theorem dX6_mostAt_35 : decode cX6_mostAt 35 = .ok (.isub, 1) := by decide +kernel
theorem dX6_mostAt_36 : decode cX6_mostAt 36 = .ok (.invokestatic 46, 3) := by decide +kernel
theorem dX6_mostAt_39 : decode cX6_mostAt 39 = .ok (.ireturn, 1) := by decide +kernel
theorem dX6_reads_0 : decode cX6_reads 0 = .ok (.aload_n 0, 1) := by decide +kernel
theorem dX6_reads_1 : decode cX6_reads 1 = .ok (.invokevirtual 259, 3) := by decide +kernel
theorem dX6_reads_4 : decode cX6_reads 4 = .ok (.aload_n 0, 1) := by decide +kernel
theorem dX6_reads_5 : decode cX6_reads 5 = .ok (.getfield 256, 3) := by decide +kernel
theorem dX6_reads_8 : decode cX6_reads 8 = .ok (.istore_n 2, 1) := by decide +kernel
theorem dX6_reads_9 : decode cX6_reads 9 = .ok (.aload_n 0, 1) := by decide +kernel
theorem dX6_reads_10 : decode cX6_reads 10 = .ok (.invokevirtual 267, 3) := by decide +kernel
theorem dX6_reads_13 : decode cX6_reads 13 = .ok (.istore_n 3, 1) := by decide +kernel
theorem dX6_reads_14 : decode cX6_reads 14 = .ok (.iload_n 3, 1) := by decide +kernel
theorem dX6_reads_15 : decode cX6_reads 15 = .ok (.bipush 10, 2) := by decide +kernel
theorem dX6_reads_17 : decode cX6_reads 17 = .ok (.if_icmp .ne 16, 3) := by decide +kernel
theorem dX6_reads_20 : decode cX6_reads 20 = .ok (.iload_n 1, 1) := by decide +kernel
theorem dX6_reads_21 : decode cX6_reads 21 = .ok (.bipush 12, 2) := by decide +kernel
theorem dX6_reads_23 : decode cX6_reads 23 = .ok (.if_icmp .ne 10, 3) := by decide +kernel
theorem dX6_reads_26 : decode cX6_reads 26 = .ok (.aload_n 0, 1) := by decide +kernel
theorem dX6_reads_27 : decode cX6_reads 27 = .ok (.iload_n 2, 1) := by decide +kernel
theorem dX6_reads_28 : decode cX6_reads 28 = .ok (.putfield 256, 3) := by decide +kernel
theorem dX6_reads_31 : decode cX6_reads 31 = .ok (.iconst (-1), 1) := by decide +kernel
theorem dX6_reads_32 : decode cX6_reads 32 = .ok (.ireturn, 1) := by decide +kernel
theorem dX6_reads_33 : decode cX6_reads 33 = .ok (.iload_n 3, 1) := by decide +kernel
theorem dX6_reads_34 : decode cX6_reads 34 = .ok (.iconst (-1), 1) := by decide +kernel
theorem dX6_reads_35 : decode cX6_reads 35 = .ok (.if_icmp .eq 7, 3) := by decide +kernel
theorem dX6_reads_38 : decode cX6_reads 38 = .ok (.iconst 1, 1) := by decide +kernel
theorem dX6_reads_39 : decode cX6_reads 39 = .ok (.goto 4, 3) := by decide +kernel
theorem dX6_reads_42 : decode cX6_reads 42 = .ok (.iconst 0, 1) := by decide +kernel
theorem dX6_reads_43 : decode cX6_reads 43 = .ok (.istore 4, 2) := by decide +kernel
theorem dX6_reads_45 : decode cX6_reads 45 = .ok (.iconst 0, 1) := by decide +kernel
theorem dX6_reads_46 : decode cX6_reads 46 = .ok (.istore 5, 2) := by decide +kernel
theorem dX6_reads_48 : decode cX6_reads 48 = .ok (.iload 4, 2) := by decide +kernel
theorem dX6_reads_50 : decode cX6_reads 50 = .ok (.ifCond .eq 68, 3) := by decide +kernel
theorem dX6_reads_53 : decode cX6_reads 53 = .ok (.iload 5, 2) := by decide +kernel
theorem dX6_reads_55 : decode cX6_reads 55 = .ok (.aload_n 0, 1) := by decide +kernel
theorem dX6_reads_56 : decode cX6_reads 56 = .ok (.iload_n 3, 1) := by decide +kernel
theorem dX6_reads_57 : decode cX6_reads 57 = .ok (.invokevirtual 270, 3) := by decide +kernel
theorem dX6_reads_60 : decode cX6_reads 60 = .ok (.if_icmp .ge 58, 3) := by decide +kernel
theorem dX6_reads_63 : decode cX6_reads 63 = .ok (.aload_n 0, 1) := by decide +kernel
theorem dX6_reads_64 : decode cX6_reads 64 = .ok (.getfield 35, 3) := by decide +kernel
theorem dX6_reads_67 : decode cX6_reads 67 = .ok (.iload 5, 2) := by decide +kernel
theorem dX6_reads_69 : decode cX6_reads 69 = .ok (.aload_n 0, 1) := by decide +kernel
theorem dX6_reads_70 : decode cX6_reads 70 = .ok (.iload_n 3, 1) := by decide +kernel
theorem dX6_reads_71 : decode cX6_reads 71 = .ok (.bipush 11, 2) := by decide +kernel
theorem dX6_reads_73 : decode cX6_reads 73 = .ok (.if_icmp .ne 8, 3) := by decide +kernel
theorem dX6_reads_76 : decode cX6_reads 76 = .ok (.bipush 6, 2) := by decide +kernel
theorem dX6_reads_78 : decode cX6_reads 78 = .ok (.goto 4, 3) := by decide +kernel
theorem dX6_reads_81 : decode cX6_reads 81 = .ok (.iconst 2, 1) := by decide +kernel
theorem dX6_reads_82 : decode cX6_reads 82 = .ok (.aload_n 0, 1) := by decide +kernel
theorem dX6_reads_83 : decode cX6_reads 83 = .ok (.iload_n 3, 1) := by decide +kernel
theorem dX6_reads_84 : decode cX6_reads 84 = .ok (.iload 5, 2) := by decide +kernel
theorem dX6_reads_86 : decode cX6_reads 86 = .ok (.iload_n 1, 1) := by decide +kernel
theorem dX6_reads_87 : decode cX6_reads 87 = .ok (.invokevirtual 273, 3) := by decide +kernel
theorem dX6_reads_90 : decode cX6_reads 90 = .ok (.invokevirtual 276, 3) := by decide +kernel
theorem dX6_reads_93 : decode cX6_reads 93 = .ok (.iastore, 1) := by decide +kernel
theorem dX6_reads_94 : decode cX6_reads 94 = .ok (.aload_n 0, 1) := by decide +kernel
theorem dX6_reads_95 : decode cX6_reads 95 = .ok (.getfield 35, 3) := by decide +kernel
theorem dX6_reads_98 : decode cX6_reads 98 = .ok (.iload 5, 2) := by decide +kernel
theorem dX6_reads_100 : decode cX6_reads 100 = .ok (.iaload, 1) := by decide +kernel
theorem dX6_reads_101 : decode cX6_reads 101 = .ok (.iconst (-1), 1) := by decide +kernel
theorem dX6_reads_102 : decode cX6_reads 102 = .ok (.if_icmp .eq 7, 3) := by decide +kernel
theorem dX6_reads_105 : decode cX6_reads 105 = .ok (.iconst 1, 1) := by decide +kernel
theorem dX6_reads_106 : decode cX6_reads 106 = .ok (.goto 4, 3) := by decide +kernel
theorem dX6_reads_109 : decode cX6_reads 109 = .ok (.iconst 0, 1) := by decide +kernel
theorem dX6_reads_110 : decode cX6_reads 110 = .ok (.istore 4, 2) := by decide +kernel
theorem dX6_reads_112 : decode cX6_reads 112 = .ok (.iinc 5 1, 3) := by decide +kernel
theorem dX6_reads_115 : decode cX6_reads 115 = .ok (.goto (-67), 3) := by decide +kernel
theorem dX6_reads_118 : decode cX6_reads 118 = .ok (.aload_n 0, 1) := by decide +kernel
theorem dX6_reads_119 : decode cX6_reads 119 = .ok (.invokevirtual 259, 3) := by decide +kernel
theorem dX6_reads_122 : decode cX6_reads 122 = .ok (.iload 4, 2) := by decide +kernel
theorem dX6_reads_124 : decode cX6_reads 124 = .ok (.ifCond .eq 18, 3) := by decide +kernel
theorem dX6_reads_127 : decode cX6_reads 127 = .ok (.aload_n 0, 1) := by decide +kernel
theorem dX6_reads_128 : decode cX6_reads 128 = .ok (.aload_n 0, 1) := by decide +kernel
theorem dX6_reads_129 : decode cX6_reads 129 = .ok (.getfield 256, 3) := by decide +kernel
theorem dX6_reads_132 : decode cX6_reads 132 = .ok (.bipush 59, 2) := by decide +kernel
theorem dX6_reads_134 : decode cX6_reads 134 = .ok (.bipush 59, 2) := by decide +kernel
theorem dX6_reads_136 : decode cX6_reads 136 = .ok (.invokevirtual 262, 3) := by decide +kernel
theorem dX6_reads_139 : decode cX6_reads 139 = .ok (.ifCond .ne 5, 3) := by decide +kernel
theorem dX6_reads_142 : decode cX6_reads 142 = .ok (.iconst (-1), 1) := by decide +kernel
theorem dX6_reads_143 : decode cX6_reads 143 = .ok (.ireturn, 1) := by decide +kernel
theorem dX6_reads_144 : decode cX6_reads 144 = .ok (.aload_n 0, 1) := by decide +kernel
theorem dX6_reads_145 : decode cX6_reads 145 = .ok (.dup, 1) := by decide +kernel
theorem dX6_reads_146 : decode cX6_reads 146 = .ok (.getfield 256, 3) := by decide +kernel
theorem dX6_reads_149 : decode cX6_reads 149 = .ok (.iconst 1, 1) := by decide +kernel
theorem dX6_reads_150 : decode cX6_reads 150 = .ok (.iadd, 1) := by decide +kernel
theorem dX6_reads_151 : decode cX6_reads 151 = .ok (.putfield 256, 3) := by decide +kernel
theorem dX6_reads_154 : decode cX6_reads 154 = .ok (.iload_n 3, 1) := by decide +kernel
theorem dX6_reads_155 : decode cX6_reads 155 = .ok (.ireturn, 1) := by decide +kernel
theorem dX6_tellsSample_0 : decode cX6_tellsSample 0 = .ok (.iconst 0, 1) := by decide +kernel
theorem dX6_tellsSample_1 : decode cX6_tellsSample 1 = .ok (.istore_n 1, 1) := by decide +kernel
theorem dX6_tellsSample_2 : decode cX6_tellsSample 2 = .ok (.iconst 0, 1) := by decide +kernel
theorem dX6_tellsSample_3 : decode cX6_tellsSample 3 = .ok (.istore_n 2, 1) := by decide +kernel
theorem dX6_tellsSample_4 : decode cX6_tellsSample 4 = .ok (.iload_n 2, 1) := by decide +kernel
theorem dX6_tellsSample_5 : decode cX6_tellsSample 5 = .ok (.aload_n 0, 1) := by decide +kernel
theorem dX6_tellsSample_6 : decode cX6_tellsSample 6 = .ok (.getfield 38, 3) := by decide +kernel
theorem dX6_tellsSample_9 : decode cX6_tellsSample 9 = .ok (.if_icmp .ge 38, 3) := by decide +kernel
theorem dX6_tellsSample_12 : decode cX6_tellsSample 12 = .ok (.aload_n 0, 1) := by decide +kernel
theorem dX6_tellsSample_13 : decode cX6_tellsSample 13 = .ok (.getfield 75, 3) := by decide +kernel
theorem dX6_tellsSample_16 : decode cX6_tellsSample 16 = .ok (.iload_n 2, 1) := by decide +kernel
theorem dX6_tellsSample_17 : decode cX6_tellsSample 17 = .ok (.invokestatic 120, 3) := by decide +kernel
theorem dX6_tellsSample_20 : decode cX6_tellsSample 20 = .ok (.ifCond .eq 21, 3) := by decide +kernel
theorem dX6_tellsSample_23 : decode cX6_tellsSample 23 = .ok (.iload_n 1, 1) := by decide +kernel
theorem dX6_tellsSample_24 : decode cX6_tellsSample 24 = .ok (.ifCond .le 9, 3) := by decide +kernel
theorem dX6_tellsSample_27 : decode cX6_tellsSample 27 = .ok (.aload_n 0, 1) := by decide +kernel
theorem dX6_tellsSample_28 : decode cX6_tellsSample 28 = .ok (.bipush 43, 2) := by decide +kernel
theorem dX6_tellsSample_30 : decode cX6_tellsSample 30 = .ok (.invokevirtual 237, 3) := by decide +kernel
theorem dX6_tellsSample_33 : decode cX6_tellsSample 33 = .ok (.aload_n 0, 1) := by decide +kernel
theorem dX6_tellsSample_34 : decode cX6_tellsSample 34 = .ok (.iload_n 2, 1) := by decide +kernel
theorem dX6_tellsSample_35 : decode cX6_tellsSample 35 = .ok (.invokevirtual 279, 3) := by decide +kernel
theorem dX6_tellsSample_38 : decode cX6_tellsSample 38 = .ok (.iinc 1 1, 3) := by decide +kernel
theorem dX6_tellsSample_41 : decode cX6_tellsSample 41 = .ok (.iinc 2 1, 3) := by decide +kernel
theorem dX6_tellsSample_44 : decode cX6_tellsSample 44 = .ok (.goto (-40), 3) := by decide +kernel
theorem dX6_tellsSample_47 : decode cX6_tellsSample 47 = .ok (.iload_n 1, 1) := by decide +kernel
theorem dX6_tellsSample_48 : decode cX6_tellsSample 48 = .ok (.ifCond .ne 9, 3) := by decide +kernel
theorem dX6_tellsSample_51 : decode cX6_tellsSample 51 = .ok (.aload_n 0, 1) := by decide +kernel
theorem dX6_tellsSample_52 : decode cX6_tellsSample 52 = .ok (.bipush 45, 2) := by decide +kernel
theorem dX6_tellsSample_54 : decode cX6_tellsSample 54 = .ok (.invokevirtual 237, 3) := by decide +kernel
theorem dX6_tellsSample_57 : decode cX6_tellsSample 57 = .ok (.return_, 1) := by decide +kernel
theorem dX6_does_0 : decode cX6_does 0 = .ok (.iload_n 1, 1) := by decide +kernel
theorem dX6_does_1 : decode cX6_does 1 = .ok (.iconst 5, 1) := by decide +kernel
theorem dX6_does_2 : decode cX6_does 2 = .ok (.if_icmp .ge 19, 3) := by decide +kernel
theorem dX6_does_5 : decode cX6_does 5 = .ok (.aload_n 0, 1) := by decide +kernel
theorem dX6_does_6 : decode cX6_does 6 = .ok (.aload_n 0, 1) := by decide +kernel
theorem dX6_does_7 : decode cX6_does 7 = .ok (.getfield 134, 3) := by decide +kernel
theorem dX6_does_10 : decode cX6_does 10 = .ok (.invokevirtual 282, 3) := by decide +kernel
theorem dX6_does_13 : decode cX6_does 13 = .ok (.aload_n 0, 1) := by decide +kernel
theorem dX6_does_14 : decode cX6_does 14 = .ok (.iload_n 1, 1) := by decide +kernel
theorem dX6_does_15 : decode cX6_does 15 = .ok (.putfield 134, 3) := by decide +kernel
theorem dX6_does_18 : decode cX6_does 18 = .ok (.goto 123, 3) := by decide +kernel
theorem dX6_does_21 : decode cX6_does 21 = .ok (.iload_n 1, 1) := by decide +kernel
theorem dX6_does_22 : decode cX6_does 22 = .ok (.bipush 10, 2) := by decide +kernel
theorem dX6_does_24 : decode cX6_does 24 = .ok (.if_icmp .ge 29, 3) := by decide +kernel
theorem dX6_does_27 : decode cX6_does 27 = .ok (.aload_n 0, 1) := by decide +kernel
theorem dX6_does_28 : decode cX6_does 28 = .ok (.aload_n 0, 1) := by decide +kernel
theorem dX6_does_29 : decode cX6_does 29 = .ok (.aload_n 0, 1) := by decide +kernel
theorem dX6_does_30 : decode cX6_does 30 = .ok (.getfield 35, 3) := by decide +kernel
theorem dX6_does_33 : decode cX6_does 33 = .ok (.iconst 0, 1) := by decide +kernel
theorem dX6_does_34 : decode cX6_does 34 = .ok (.iaload, 1) := by decide +kernel
theorem dX6_does_35 : decode cX6_does 35 = .ok (.iload_n 1, 1) := by decide +kernel
theorem dX6_does_36 : decode cX6_does 36 = .ok (.iconst 5, 1) := by decide +kernel
theorem dX6_does_37 : decode cX6_does 37 = .ok (.isub, 1) := by decide +kernel
theorem dX6_does_38 : decode cX6_does 38 = .ok (.aload_n 0, 1) := by decide +kernel
theorem dX6_does_39 : decode cX6_does 39 = .ok (.getfield 35, 3) := by decide +kernel
theorem dX6_does_42 : decode cX6_does 42 = .ok (.iconst 1, 1) := by decide +kernel
theorem dX6_does_43 : decode cX6_does 43 = .ok (.iaload, 1) := by decide +kernel
theorem dX6_does_44 : decode cX6_does 44 = .ok (.invokevirtual 71, 3) := by decide +kernel
theorem dX6_does_47 : decode cX6_does 47 = .ok (.invokevirtual 279, 3) := by decide +kernel
theorem dX6_does_50 : decode cX6_does 50 = .ok (.goto 91, 3) := by decide +kernel
theorem dX6_does_53 : decode cX6_does 53 = .ok (.iload_n 1, 1) := by decide +kernel
theorem dX6_does_54 : decode cX6_does 54 = .ok (.bipush 10, 2) := by decide +kernel
theorem dX6_does_56 : decode cX6_does 56 = .ok (.if_icmp .ne 50, 3) := by decide +kernel
theorem dX6_does_59 : decode cX6_does 59 = .ok (.aload_n 0, 1) := by decide +kernel
theorem dX6_does_60 : decode cX6_does 60 = .ok (.aload_n 0, 1) := by decide +kernel
theorem dX6_does_61 : decode cX6_does 61 = .ok (.getfield 35, 3) := by decide +kernel
theorem dX6_does_64 : decode cX6_does 64 = .ok (.iconst 0, 1) := by decide +kernel
theorem dX6_does_65 : decode cX6_does 65 = .ok (.iaload, 1) := by decide +kernel
theorem dX6_does_66 : decode cX6_does 66 = .ok (.aload_n 0, 1) := by decide +kernel
theorem dX6_does_67 : decode cX6_does 67 = .ok (.getfield 35, 3) := by decide +kernel
theorem dX6_does_70 : decode cX6_does 70 = .ok (.iconst 1, 1) := by decide +kernel
theorem dX6_does_71 : decode cX6_does 71 = .ok (.iaload, 1) := by decide +kernel
theorem dX6_does_72 : decode cX6_does 72 = .ok (.aload_n 0, 1) := by decide +kernel
theorem dX6_does_73 : decode cX6_does 73 = .ok (.getfield 35, 3) := by decide +kernel
theorem dX6_does_76 : decode cX6_does 76 = .ok (.iconst 2, 1) := by decide +kernel
theorem dX6_does_77 : decode cX6_does 77 = .ok (.iaload, 1) := by decide +kernel
theorem dX6_does_78 : decode cX6_does 78 = .ok (.aload_n 0, 1) := by decide +kernel
theorem dX6_does_79 : decode cX6_does 79 = .ok (.getfield 35, 3) := by decide +kernel
theorem dX6_does_82 : decode cX6_does 82 = .ok (.iconst 3, 1) := by decide +kernel
theorem dX6_does_83 : decode cX6_does 83 = .ok (.iaload, 1) := by decide +kernel
theorem dX6_does_84 : decode cX6_does 84 = .ok (.aload_n 0, 1) := by decide +kernel
theorem dX6_does_85 : decode cX6_does 85 = .ok (.getfield 35, 3) := by decide +kernel
theorem dX6_does_88 : decode cX6_does 88 = .ok (.iconst 4, 1) := by decide +kernel
theorem dX6_does_89 : decode cX6_does 89 = .ok (.iaload, 1) := by decide +kernel
theorem dX6_does_90 : decode cX6_does 90 = .ok (.invokevirtual 57, 3) := by decide +kernel
theorem dX6_does_93 : decode cX6_does 93 = .ok (.aload_n 0, 1) := by decide +kernel
theorem dX6_does_94 : decode cX6_does 94 = .ok (.aload_n 0, 1) := by decide +kernel
theorem dX6_does_95 : decode cX6_does 95 = .ok (.getfield 38, 3) := by decide +kernel
theorem dX6_does_98 : decode cX6_does 98 = .ok (.iconst 1, 1) := by decide +kernel
theorem dX6_does_99 : decode cX6_does 99 = .ok (.isub, 1) := by decide +kernel
theorem dX6_does_100 : decode cX6_does 100 = .ok (.invokevirtual 279, 3) := by decide +kernel
theorem dX6_does_103 : decode cX6_does 103 = .ok (.goto 38, 3) := by decide +kernel
theorem dX6_does_106 : decode cX6_does 106 = .ok (.iload_n 1, 1) := by decide +kernel
theorem dX6_does_107 : decode cX6_does 107 = .ok (.bipush 11, 2) := by decide +kernel
theorem dX6_does_109 : decode cX6_does 109 = .ok (.if_icmp .ne 21, 3) := by decide +kernel
theorem dX6_does_112 : decode cX6_does 112 = .ok (.aload_n 0, 1) := by decide +kernel
theorem dX6_does_113 : decode cX6_does 113 = .ok (.aload_n 0, 1) := by decide +kernel
theorem dX6_does_114 : decode cX6_does 114 = .ok (.getfield 35, 3) := by decide +kernel
theorem dX6_does_117 : decode cX6_does 117 = .ok (.iconst 0, 1) := by decide +kernel
theorem dX6_does_118 : decode cX6_does 118 = .ok (.iaload, 1) := by decide +kernel
theorem dX6_does_119 : decode cX6_does 119 = .ok (.invokevirtual 196, 3) := by decide +kernel
theorem dX6_does_122 : decode cX6_does 122 = .ok (.istore_n 2, 1) := by decide +kernel
theorem dX6_does_123 : decode cX6_does 123 = .ok (.aload_n 0, 1) := by decide +kernel
theorem dX6_does_124 : decode cX6_does 124 = .ok (.invokevirtual 285, 3) := by decide +kernel
theorem dX6_does_127 : decode cX6_does 127 = .ok (.goto 14, 3) := by decide +kernel
theorem dX6_does_130 : decode cX6_does 130 = .ok (.aload_n 0, 1) := by decide +kernel
theorem dX6_does_131 : decode cX6_does 131 = .ok (.aload_n 0, 1) := by decide +kernel
theorem dX6_does_132 : decode cX6_does 132 = .ok (.getfield 75, 3) := by decide +kernel
theorem dX6_does_135 : decode cX6_does 135 = .ok (.invokestatic 190, 3) := by decide +kernel
theorem dX6_does_138 : decode cX6_does 138 = .ok (.invokevirtual 279, 3) := by decide +kernel
theorem dX6_does_141 : decode cX6_does 141 = .ok (.return_, 1) := by decide +kernel
theorem dX6_goesThrough_0 : decode cX6_goesThrough 0 = .ok (.iconst 0, 1) := by decide +kernel
theorem dX6_goesThrough_1 : decode cX6_goesThrough 1 = .ok (.istore_n 2, 1) := by decide +kernel
theorem dX6_goesThrough_2 : decode cX6_goesThrough 2 = .ok (.aload_n 0, 1) := by decide +kernel
theorem dX6_goesThrough_3 : decode cX6_goesThrough 3 = .ok (.getfield 38, 3) := by decide +kernel
theorem dX6_goesThrough_6 : decode cX6_goesThrough 6 = .ok (.istore_n 3, 1) := by decide +kernel
theorem dX6_goesThrough_7 : decode cX6_goesThrough 7 = .ok (.aload_n 0, 1) := by decide +kernel
theorem dX6_goesThrough_8 : decode cX6_goesThrough 8 = .ok (.iconst 0, 1) := by decide +kernel
theorem dX6_goesThrough_9 : decode cX6_goesThrough 9 = .ok (.putfield 256, 3) := by decide +kernel
theorem dX6_goesThrough_12 : decode cX6_goesThrough 12 = .ok (.aload_n 0, 1) := by decide +kernel
theorem dX6_goesThrough_13 : decode cX6_goesThrough 13 = .ok (.invokevirtual 259, 3) := by decide +kernel
theorem dX6_goesThrough_16 : decode cX6_goesThrough 16 = .ok (.iconst 1, 1) := by decide +kernel
theorem dX6_goesThrough_17 : decode cX6_goesThrough 17 = .ok (.istore 4, 2) := by decide +kernel
theorem dX6_goesThrough_19 : decode cX6_goesThrough 19 = .ok (.iload 4, 2) := by decide +kernel
theorem dX6_goesThrough_21 : decode cX6_goesThrough 21 = .ok (.ifCond .eq 81, 3) := by decide +kernel
theorem dX6_goesThrough_24 : decode cX6_goesThrough 24 = .ok (.aload_n 0, 1) := by decide +kernel
theorem dX6_goesThrough_25 : decode cX6_goesThrough 25 = .ok (.iload_n 3, 1) := by decide +kernel
theorem dX6_goesThrough_26 : decode cX6_goesThrough 26 = .ok (.invokevirtual 288, 3) := by decide +kernel
theorem dX6_goesThrough_29 : decode cX6_goesThrough 29 = .ok (.istore 5, 2) := by decide +kernel
theorem dX6_goesThrough_31 : decode cX6_goesThrough 31 = .ok (.iload 5, 2) := by decide +kernel
theorem dX6_goesThrough_33 : decode cX6_goesThrough 33 = .ok (.iconst (-1), 1) := by decide +kernel
theorem dX6_goesThrough_34 : decode cX6_goesThrough 34 = .ok (.if_icmp .ne 5, 3) := by decide +kernel
theorem dX6_goesThrough_37 : decode cX6_goesThrough 37 = .ok (.iconst (-1), 1) := by decide +kernel
theorem dX6_goesThrough_38 : decode cX6_goesThrough 38 = .ok (.ireturn, 1) := by decide +kernel
theorem dX6_goesThrough_39 : decode cX6_goesThrough 39 = .ok (.iload_n 3, 1) := by decide +kernel
theorem dX6_goesThrough_40 : decode cX6_goesThrough 40 = .ok (.iload 5, 2) := by decide +kernel
theorem dX6_goesThrough_42 : decode cX6_goesThrough 42 = .ok (.bipush 10, 2) := by decide +kernel
theorem dX6_goesThrough_44 : decode cX6_goesThrough 44 = .ok (.if_icmp .ne 7, 3) := by decide +kernel
theorem dX6_goesThrough_47 : decode cX6_goesThrough 47 = .ok (.iconst 1, 1) := by decide +kernel
theorem dX6_goesThrough_48 : decode cX6_goesThrough 48 = .ok (.goto 4, 3) := by decide +kernel
theorem dX6_goesThrough_51 : decode cX6_goesThrough 51 = .ok (.iconst 0, 1) := by decide +kernel
theorem dX6_goesThrough_52 : decode cX6_goesThrough 52 = .ok (.iadd, 1) := by decide +kernel
theorem dX6_goesThrough_53 : decode cX6_goesThrough 53 = .ok (.istore_n 3, 1) := by decide +kernel
theorem dX6_goesThrough_54 : decode cX6_goesThrough 54 = .ok (.iload_n 1, 1) := by decide +kernel
theorem dX6_goesThrough_55 : decode cX6_goesThrough 55 = .ok (.ifCond .eq 19, 3) := by decide +kernel
theorem dX6_goesThrough_58 : decode cX6_goesThrough 58 = .ok (.iload_n 2, 1) := by decide +kernel
theorem dX6_goesThrough_59 : decode cX6_goesThrough 59 = .ok (.ifCond .le 9, 3) := by decide +kernel
theorem dX6_goesThrough_62 : decode cX6_goesThrough 62 = .ok (.aload_n 0, 1) := by decide +kernel
theorem dX6_goesThrough_63 : decode cX6_goesThrough 63 = .ok (.bipush 32, 2) := by decide +kernel
theorem dX6_goesThrough_65 : decode cX6_goesThrough 65 = .ok (.invokevirtual 237, 3) := by decide +kernel
theorem dX6_goesThrough_68 : decode cX6_goesThrough 68 = .ok (.aload_n 0, 1) := by decide +kernel
theorem dX6_goesThrough_69 : decode cX6_goesThrough 69 = .ok (.iload 5, 2) := by decide +kernel
theorem dX6_goesThrough_71 : decode cX6_goesThrough 71 = .ok (.invokevirtual 291, 3) := by decide +kernel
theorem dX6_goesThrough_74 : decode cX6_goesThrough 74 = .ok (.iinc 2 1, 3) := by decide +kernel
theorem dX6_goesThrough_77 : decode cX6_goesThrough 77 = .ok (.aload_n 0, 1) := by decide +kernel
theorem dX6_goesThrough_78 : decode cX6_goesThrough 78 = .ok (.invokevirtual 259, 3) := by decide +kernel
theorem dX6_goesThrough_81 : decode cX6_goesThrough 81 = .ok (.aload_n 0, 1) := by decide +kernel
theorem dX6_goesThrough_82 : decode cX6_goesThrough 82 = .ok (.getfield 256, 3) := by decide +kernel
theorem dX6_goesThrough_85 : decode cX6_goesThrough 85 = .ok (.aload_n 0, 1) := by decide +kernel
theorem dX6_goesThrough_86 : decode cX6_goesThrough 86 = .ok (.getfield 231, 3) := by decide +kernel
theorem dX6_goesThrough_89 : decode cX6_goesThrough 89 = .ok (.if_icmp .ge 7, 3) := by decide +kernel
theorem dX6_goesThrough_92 : decode cX6_goesThrough 92 = .ok (.iconst 1, 1) := by decide +kernel
theorem dX6_goesThrough_93 : decode cX6_goesThrough 93 = .ok (.goto 4, 3) := by decide +kernel
theorem dX6_goesThrough_96 : decode cX6_goesThrough 96 = .ok (.iconst 0, 1) := by decide +kernel
theorem dX6_goesThrough_97 : decode cX6_goesThrough 97 = .ok (.istore 4, 2) := by decide +kernel
theorem dX6_goesThrough_99 : decode cX6_goesThrough 99 = .ok (.goto (-80), 3) := by decide +kernel
theorem dX6_goesThrough_102 : decode cX6_goesThrough 102 = .ok (.iload_n 2, 1) := by decide +kernel
theorem dX6_goesThrough_103 : decode cX6_goesThrough 103 = .ok (.ireturn, 1) := by decide +kernel
theorem dX6_says_0 : decode cX6_says 0 = .ok (.aload_n 0, 1) := by decide +kernel
theorem dX6_says_1 : decode cX6_says 1 = .ok (.iconst 0, 1) := by decide +kernel
theorem dX6_says_2 : decode cX6_says 2 = .ok (.invokevirtual 294, 3) := by decide +kernel
theorem dX6_says_5 : decode cX6_says 5 = .ok (.iconst (-1), 1) := by decide +kernel
theorem dX6_says_6 : decode cX6_says 6 = .ok (.if_icmp .ne 11, 3) := by decide +kernel
theorem dX6_says_9 : decode cX6_says 9 = .ok (.bipush (-10), 2) := by decide +kernel
theorem dX6_says_11 : decode cX6_says 11 = .ok (.aload_n 0, 1) := by decide +kernel
theorem dX6_says_12 : decode cX6_says 12 = .ok (.getfield 256, 3) := by decide +kernel
theorem dX6_says_15 : decode cX6_says 15 = .ok (.isub, 1) := by decide +kernel
theorem dX6_says_16 : decode cX6_says 16 = .ok (.ireturn, 1) := by decide +kernel
theorem dX6_says_17 : decode cX6_says 17 = .ok (.aload_n 0, 1) := by decide +kernel
theorem dX6_says_18 : decode cX6_says 18 = .ok (.iconst 0, 1) := by decide +kernel
theorem dX6_says_19 : decode cX6_says 19 = .ok (.putfield 234, 3) := by decide +kernel
theorem dX6_says_22 : decode cX6_says 22 = .ok (.aload_n 0, 1) := by decide +kernel
theorem dX6_says_23 : decode cX6_says 23 = .ok (.iconst 1, 1) := by decide +kernel
theorem dX6_says_24 : decode cX6_says 24 = .ok (.invokevirtual 294, 3) := by decide +kernel
theorem dX6_says_27 : decode cX6_says 27 = .ok (.ireturn, 1) := by decide +kernel
theorem dX6_answer_0 : decode cX6_answer 0 = .ok (.iload_n 1, 1) := by decide +kernel
theorem dX6_answer_1 : decode cX6_answer 1 = .ok (.iconst (-1), 1) := by decide +kernel
theorem dX6_answer_2 : decode cX6_answer 2 = .ok (.if_icmp .ge 10, 3) := by decide +kernel
theorem dX6_answer_5 : decode cX6_answer 5 = .ok (.aload_n 0, 1) := by decide +kernel
theorem dX6_answer_6 : decode cX6_answer 6 = .ok (.bipush (-10), 2) := by decide +kernel
theorem dX6_answer_8 : decode cX6_answer 8 = .ok (.invokevirtual 50, 3) := by decide +kernel
theorem dX6_answer_11 : decode cX6_answer 11 = .ok (.ireturn, 1) := by decide +kernel
theorem dX6_answer_12 : decode cX6_answer 12 = .ok (.iload_n 1, 1) := by decide +kernel
theorem dX6_answer_13 : decode cX6_answer 13 = .ok (.iconst (-1), 1) := by decide +kernel
theorem dX6_answer_14 : decode cX6_answer 14 = .ok (.if_icmp .ne 10, 3) := by decide +kernel
theorem dX6_answer_17 : decode cX6_answer 17 = .ok (.aload_n 0, 1) := by decide +kernel
theorem dX6_answer_18 : decode cX6_answer 18 = .ok (.getfield 234, 3) := by decide +kernel
theorem dX6_answer_21 : decode cX6_answer 21 = .ok (.goto 22, 3) := by decide +kernel
theorem dX6_answer_24 : decode cX6_answer 24 = .ok (.iload_n 1, 1) := by decide +kernel
theorem dX6_answer_25 : decode cX6_answer 25 = .ok (.aload_n 0, 1) := by decide +kernel
theorem dX6_answer_26 : decode cX6_answer 26 = .ok (.getfield 234, 3) := by decide +kernel
theorem dX6_answer_29 : decode cX6_answer 29 = .ok (.if_icmp .ge 12, 3) := by decide +kernel
theorem dX6_answer_32 : decode cX6_answer 32 = .ok (.aload_n 0, 1) := by decide +kernel
theorem dX6_answer_33 : decode cX6_answer 33 = .ok (.getfield 32, 3) := by decide +kernel
theorem dX6_answer_36 : decode cX6_answer 36 = .ok (.iload_n 1, 1) := by decide +kernel
theorem dX6_answer_37 : decode cX6_answer 37 = .ok (.iaload, 1) := by decide +kernel
theorem dX6_answer_38 : decode cX6_answer 38 = .ok (.goto 5, 3) := by decide +kernel
theorem dX6_answer_41 : decode cX6_answer 41 = .ok (.bipush (-5), 2) := by decide +kernel
theorem dX6_answer_43 : decode cX6_answer 43 = .ok (.ireturn, 1) := by decide +kernel
theorem dX6_toldOf_0 : decode cX6_toldOf 0 = .ok (.iload_n 1, 1) := by decide +kernel
theorem dX6_toldOf_1 : decode cX6_toldOf 1 = .ok (.iconst 3, 1) := by decide +kernel
theorem dX6_toldOf_2 : decode cX6_toldOf 2 = .ok (.if_icmp .ge 12, 3) := by decide +kernel
theorem dX6_toldOf_5 : decode cX6_toldOf 5 = .ok (.aload_n 0, 1) := by decide +kernel
theorem dX6_toldOf_6 : decode cX6_toldOf 6 = .ok (.getfield 13, 3) := by decide +kernel
theorem dX6_toldOf_9 : decode cX6_toldOf 9 = .ok (.iload_n 1, 1) := by decide +kernel
theorem dX6_toldOf_10 : decode cX6_toldOf 10 = .ok (.iaload, 1) := by decide +kernel
theorem dX6_toldOf_11 : decode cX6_toldOf 11 = .ok (.goto 43, 3) := by decide +kernel
theorem dX6_toldOf_14 : decode cX6_toldOf 14 = .ok (.iload_n 1, 1) := by decide +kernel
theorem dX6_toldOf_15 : decode cX6_toldOf 15 = .ok (.iconst 3, 1) := by decide +kernel
theorem dX6_toldOf_16 : decode cX6_toldOf 16 = .ok (.if_icmp .ne 10, 3) := by decide +kernel
theorem dX6_toldOf_19 : decode cX6_toldOf 19 = .ok (.aload_n 0, 1) := by decide +kernel
theorem dX6_toldOf_20 : decode cX6_toldOf 20 = .ok (.getfield 231, 3) := by decide +kernel
theorem dX6_toldOf_23 : decode cX6_toldOf 23 = .ok (.goto 31, 3) := by decide +kernel
theorem dX6_toldOf_26 : decode cX6_toldOf 26 = .ok (.iload_n 1, 1) := by decide +kernel
theorem dX6_toldOf_27 : decode cX6_toldOf 27 = .ok (.iconst 4, 1) := by decide +kernel
theorem dX6_toldOf_28 : decode cX6_toldOf 28 = .ok (.if_icmp .ne 10, 3) := by decide +kernel
theorem dX6_toldOf_31 : decode cX6_toldOf 31 = .ok (.aload_n 0, 1) := by decide +kernel
theorem dX6_toldOf_32 : decode cX6_toldOf 32 = .ok (.getfield 38, 3) := by decide +kernel
theorem dX6_toldOf_35 : decode cX6_toldOf 35 = .ok (.goto 19, 3) := by decide +kernel
theorem dX6_toldOf_38 : decode cX6_toldOf 38 = .ok (.iload_n 1, 1) := by decide +kernel
theorem dX6_toldOf_39 : decode cX6_toldOf 39 = .ok (.iconst 5, 1) := by decide +kernel
theorem dX6_toldOf_40 : decode cX6_toldOf 40 = .ok (.if_icmp .ne 10, 3) := by decide +kernel
theorem dX6_toldOf_43 : decode cX6_toldOf 43 = .ok (.aload_n 0, 1) := by decide +kernel
theorem dX6_toldOf_44 : decode cX6_toldOf 44 = .ok (.getfield 134, 3) := by decide +kernel
theorem dX6_toldOf_47 : decode cX6_toldOf 47 = .ok (.goto 7, 3) := by decide +kernel
theorem dX6_toldOf_50 : decode cX6_toldOf 50 = .ok (.aload_n 0, 1) := by decide +kernel
theorem dX6_toldOf_51 : decode cX6_toldOf 51 = .ok (.getfield 234, 3) := by decide +kernel
theorem dX6_toldOf_54 : decode cX6_toldOf 54 = .ok (.ireturn, 1) := by decide +kernel
theorem dX6_told_0 : decode cX6_told 0 = .ok (.iload_n 1, 1) := by decide +kernel
theorem dX6_told_1 : decode cX6_told 1 = .ok (.i2l, 1) := by decide +kernel
theorem dX6_told_2 : decode cX6_told 2 = .ok (.lconst 0, 1) := by decide +kernel
theorem dX6_told_3 : decode cX6_told 3 = .ok (.ldc2_w 298, 3) := by decide +kernel
theorem dX6_told_6 : decode cX6_told 6 = .ok (.invokestatic 42, 3) := by decide +kernel
theorem dX6_told_9 : decode cX6_told 9 = .ok (.ifCond .eq 11, 3) := by decide +kernel
theorem dX6_told_12 : decode cX6_told 12 = .ok (.aload_n 0, 1) := by decide +kernel
theorem dX6_told_13 : decode cX6_told 13 = .ok (.iload_n 1, 1) := by decide +kernel
theorem dX6_told_14 : decode cX6_told 14 = .ok (.invokevirtual 300, 3) := by decide +kernel
theorem dX6_told_17 : decode cX6_told 17 = .ok (.goto 9, 3) := by decide +kernel
theorem dX6_told_20 : decode cX6_told 20 = .ok (.aload_n 0, 1) := by decide +kernel
theorem dX6_told_21 : decode cX6_told 21 = .ok (.bipush (-2), 2) := by decide +kernel
theorem dX6_told_23 : decode cX6_told 23 = .ok (.invokevirtual 50, 3) := by decide +kernel
theorem dX6_told_26 : decode cX6_told 26 = .ok (.ireturn, 1) := by decide +kernel
theorem dX6_digest_0 : decode cX6_digest 0 = .ok (.ldc2_w 303, 3) := by decide +kernel
theorem dX6_digest_3 : decode cX6_digest 3 = .ok (.lstore_n 1, 1) := by decide +kernel
theorem dX6_digest_4 : decode cX6_digest 4 = .ok (.iconst 0, 1) := by decide +kernel
theorem dX6_digest_5 : decode cX6_digest 5 = .ok (.istore_n 3, 1) := by decide +kernel
theorem dX6_digest_6 : decode cX6_digest 6 = .ok (.iload_n 3, 1) := by decide +kernel
theorem dX6_digest_7 : decode cX6_digest 7 = .ok (.bipush 7, 2) := by decide +kernel
theorem dX6_digest_9 : decode cX6_digest 9 = .ok (.if_icmp .ge 22, 3) := by decide +kernel
theorem dX6_digest_12 : decode cX6_digest 12 = .ok (.ldc2_w 305, 3) := by decide +kernel
theorem dX6_digest_15 : decode cX6_digest 15 = .ok (.lload_n 1, 1) := by decide +kernel
theorem dX6_digest_16 : decode cX6_digest 16 = .ok (.lmul, 1) := by decide +kernel
theorem dX6_digest_17 : decode cX6_digest 17 = .ok (.aload_n 0, 1) := by decide +kernel
theorem dX6_digest_18 : decode cX6_digest 18 = .ok (.iload_n 3, 1) := by decide +kernel
theorem dX6_digest_19 : decode cX6_digest 19 = .ok (.invokevirtual 300, 3) := by decide +kernel
theorem dX6_digest_22 : decode cX6_digest 22 = .ok (.i2l, 1) := by decide +kernel
theorem dX6_digest_23 : decode cX6_digest 23 = .ok (.ladd, 1) := by decide +kernel
theorem dX6_digest_24 : decode cX6_digest 24 = .ok (.lstore_n 1, 1) := by decide +kernel
theorem dX6_digest_25 : decode cX6_digest 25 = .ok (.iinc 3 1, 3) := by decide +kernel
theorem dX6_digest_28 : decode cX6_digest 28 = .ok (.goto (-22), 3) := by decide +kernel
theorem dX6_digest_31 : decode cX6_digest 31 = .ok (.iconst 0, 1) := by decide +kernel
theorem dX6_digest_32 : decode cX6_digest 32 = .ok (.istore_n 3, 1) := by decide +kernel
theorem dX6_digest_33 : decode cX6_digest 33 = .ok (.iload_n 3, 1) := by decide +kernel
theorem dX6_digest_34 : decode cX6_digest 34 = .ok (.aload_n 0, 1) := by decide +kernel
theorem dX6_digest_35 : decode cX6_digest 35 = .ok (.getfield 38, 3) := by decide +kernel
theorem dX6_digest_38 : decode cX6_digest 38 = .ok (.if_icmp .ge 63, 3) := by decide +kernel
theorem dX6_digest_41 : decode cX6_digest 41 = .ok (.iconst 0, 1) := by decide +kernel
theorem dX6_digest_42 : decode cX6_digest 42 = .ok (.istore 4, 2) := by decide +kernel
theorem dX6_digest_44 : decode cX6_digest 44 = .ok (.iload 4, 2) := by decide +kernel
theorem dX6_digest_46 : decode cX6_digest 46 = .ok (.iconst 5, 1) := by decide +kernel
theorem dX6_digest_47 : decode cX6_digest 47 = .ok (.if_icmp .ge 24, 3) := by decide +kernel
theorem dX6_digest_50 : decode cX6_digest 50 = .ok (.ldc2_w 305, 3) := by decide +kernel
theorem dX6_digest_53 : decode cX6_digest 53 = .ok (.lload_n 1, 1) := by decide +kernel
theorem dX6_digest_54 : decode cX6_digest 54 = .ok (.lmul, 1) := by decide +kernel
theorem dX6_digest_55 : decode cX6_digest 55 = .ok (.aload_n 0, 1) := by decide +kernel
theorem dX6_digest_56 : decode cX6_digest 56 = .ok (.iload_n 3, 1) := by decide +kernel
theorem dX6_digest_57 : decode cX6_digest 57 = .ok (.iload 4, 2) := by decide +kernel
theorem dX6_digest_59 : decode cX6_digest 59 = .ok (.invokevirtual 61, 3) := by decide +kernel
theorem dX6_digest_62 : decode cX6_digest 62 = .ok (.i2l, 1) := by decide +kernel
theorem dX6_digest_63 : decode cX6_digest 63 = .ok (.ladd, 1) := by decide +kernel
theorem dX6_digest_64 : decode cX6_digest 64 = .ok (.lstore_n 1, 1) := by decide +kernel
theorem dX6_digest_65 : decode cX6_digest 65 = .ok (.iinc 4 1, 3) := by decide +kernel
theorem dX6_digest_68 : decode cX6_digest 68 = .ok (.goto (-24), 3) := by decide +kernel
theorem dX6_digest_71 : decode cX6_digest 71 = .ok (.ldc2_w 305, 3) := by decide +kernel
theorem dX6_digest_74 : decode cX6_digest 74 = .ok (.lload_n 1, 1) := by decide +kernel
theorem dX6_digest_75 : decode cX6_digest 75 = .ok (.lmul, 1) := by decide +kernel
theorem dX6_digest_76 : decode cX6_digest 76 = .ok (.aload_n 0, 1) := by decide +kernel
theorem dX6_digest_77 : decode cX6_digest 77 = .ok (.getfield 75, 3) := by decide +kernel
theorem dX6_digest_80 : decode cX6_digest 80 = .ok (.iload_n 3, 1) := by decide +kernel
theorem dX6_digest_81 : decode cX6_digest 81 = .ok (.invokestatic 120, 3) := by decide +kernel
theorem dX6_digest_84 : decode cX6_digest 84 = .ok (.ifCond .eq 7, 3) := by decide +kernel
theorem dX6_digest_87 : decode cX6_digest 87 = .ok (.iconst 1, 1) := by decide +kernel
theorem dX6_digest_88 : decode cX6_digest 88 = .ok (.goto 4, 3) := by decide +kernel
theorem dX6_digest_91 : decode cX6_digest 91 = .ok (.iconst 0, 1) := by decide +kernel
theorem dX6_digest_92 : decode cX6_digest 92 = .ok (.i2l, 1) := by decide +kernel
theorem dX6_digest_93 : decode cX6_digest 93 = .ok (.ladd, 1) := by decide +kernel
theorem dX6_digest_94 : decode cX6_digest 94 = .ok (.lstore_n 1, 1) := by decide +kernel
theorem dX6_digest_95 : decode cX6_digest 95 = .ok (.iinc 3 1, 3) := by decide +kernel
theorem dX6_digest_98 : decode cX6_digest 98 = .ok (.goto (-65), 3) := by decide +kernel
theorem dX6_digest_101 : decode cX6_digest 101 = .ok (.iconst 0, 1) := by decide +kernel
theorem dX6_digest_102 : decode cX6_digest 102 = .ok (.istore_n 3, 1) := by decide +kernel
theorem dX6_digest_103 : decode cX6_digest 103 = .ok (.iload_n 3, 1) := by decide +kernel
theorem dX6_digest_104 : decode cX6_digest 104 = .ok (.iconst 4, 1) := by decide +kernel
theorem dX6_digest_105 : decode cX6_digest 105 = .ok (.if_icmp .ge 22, 3) := by decide +kernel
theorem dX6_digest_108 : decode cX6_digest 108 = .ok (.ldc2_w 305, 3) := by decide +kernel
theorem dX6_digest_111 : decode cX6_digest 111 = .ok (.lload_n 1, 1) := by decide +kernel
theorem dX6_digest_112 : decode cX6_digest 112 = .ok (.lmul, 1) := by decide +kernel
theorem dX6_digest_113 : decode cX6_digest 113 = .ok (.aload_n 0, 1) := by decide +kernel
theorem dX6_digest_114 : decode cX6_digest 114 = .ok (.iload_n 3, 1) := by decide +kernel
theorem dX6_digest_115 : decode cX6_digest 115 = .ok (.invokevirtual 199, 3) := by decide +kernel
theorem dX6_digest_118 : decode cX6_digest 118 = .ok (.i2l, 1) := by decide +kernel
theorem dX6_digest_119 : decode cX6_digest 119 = .ok (.ladd, 1) := by decide +kernel
theorem dX6_digest_120 : decode cX6_digest 120 = .ok (.lstore_n 1, 1) := by decide +kernel
theorem dX6_digest_121 : decode cX6_digest 121 = .ok (.iinc 3 1, 3) := by decide +kernel
theorem dX6_digest_124 : decode cX6_digest 124 = .ok (.goto (-21), 3) := by decide +kernel
theorem dX6_digest_127 : decode cX6_digest 127 = .ok (.iconst 0, 1) := by decide +kernel
theorem dX6_digest_128 : decode cX6_digest 128 = .ok (.istore_n 3, 1) := by decide +kernel
theorem dX6_digest_129 : decode cX6_digest 129 = .ok (.iload_n 3, 1) := by decide +kernel
theorem dX6_digest_130 : decode cX6_digest 130 = .ok (.aload_n 0, 1) := by decide +kernel
theorem dX6_digest_131 : decode cX6_digest 131 = .ok (.getfield 234, 3) := by decide +kernel
theorem dX6_digest_134 : decode cX6_digest 134 = .ok (.if_icmp .ge 23, 3) := by decide +kernel
theorem dX6_digest_137 : decode cX6_digest 137 = .ok (.ldc2_w 305, 3) := by decide +kernel
theorem dX6_digest_140 : decode cX6_digest 140 = .ok (.lload_n 1, 1) := by decide +kernel
theorem dX6_digest_141 : decode cX6_digest 141 = .ok (.lmul, 1) := by decide +kernel
theorem dX6_digest_142 : decode cX6_digest 142 = .ok (.aload_n 0, 1) := by decide +kernel
theorem dX6_digest_143 : decode cX6_digest 143 = .ok (.getfield 32, 3) := by decide +kernel
theorem dX6_digest_146 : decode cX6_digest 146 = .ok (.iload_n 3, 1) := by decide +kernel
theorem dX6_digest_147 : decode cX6_digest 147 = .ok (.iaload, 1) := by decide +kernel
theorem dX6_digest_148 : decode cX6_digest 148 = .ok (.i2l, 1) := by decide +kernel
theorem dX6_digest_149 : decode cX6_digest 149 = .ok (.ladd, 1) := by decide +kernel
theorem dX6_digest_150 : decode cX6_digest 150 = .ok (.lstore_n 1, 1) := by decide +kernel
theorem dX6_digest_151 : decode cX6_digest 151 = .ok (.iinc 3 1, 3) := by decide +kernel
theorem dX6_digest_154 : decode cX6_digest 154 = .ok (.goto (-25), 3) := by decide +kernel
theorem dX6_digest_157 : decode cX6_digest 157 = .ok (.lload_n 1, 1) := by decide +kernel
theorem dX6_digest_158 : decode cX6_digest 158 = .ok (.lreturn, 1) := by decide +kernel
theorem dJ6_bitCount_0f7a4_0 : decode cJ6_bitCount_0f7a4 0 = .ok (.iload_n 0, 1) := by decide +kernel
theorem dJ6_bitCount_0f7a4_1 : decode cJ6_bitCount_0f7a4 1 = .ok (.iload_n 0, 1) := by decide +kernel
theorem dJ6_bitCount_0f7a4_2 : decode cJ6_bitCount_0f7a4 2 = .ok (.iconst 1, 1) := by decide +kernel
theorem dJ6_bitCount_0f7a4_3 : decode cJ6_bitCount_0f7a4 3 = .ok (.iushr, 1) := by decide +kernel
theorem dJ6_bitCount_0f7a4_4 : decode cJ6_bitCount_0f7a4 4 = .ok (.ldc_w 265, 3) := by decide +kernel
theorem dJ6_bitCount_0f7a4_7 : decode cJ6_bitCount_0f7a4 7 = .ok (.iand, 1) := by decide +kernel
theorem dJ6_bitCount_0f7a4_8 : decode cJ6_bitCount_0f7a4 8 = .ok (.isub, 1) := by decide +kernel
theorem dJ6_bitCount_0f7a4_9 : decode cJ6_bitCount_0f7a4 9 = .ok (.istore_n 0, 1) := by decide +kernel
theorem dJ6_bitCount_0f7a4_10 : decode cJ6_bitCount_0f7a4 10 = .ok (.iload_n 0, 1) := by decide +kernel
theorem dJ6_bitCount_0f7a4_11 : decode cJ6_bitCount_0f7a4 11 = .ok (.ldc_w 266, 3) := by decide +kernel
theorem dJ6_bitCount_0f7a4_14 : decode cJ6_bitCount_0f7a4 14 = .ok (.iand, 1) := by decide +kernel
theorem dJ6_bitCount_0f7a4_15 : decode cJ6_bitCount_0f7a4 15 = .ok (.iload_n 0, 1) := by decide +kernel
theorem dJ6_bitCount_0f7a4_16 : decode cJ6_bitCount_0f7a4 16 = .ok (.iconst 2, 1) := by decide +kernel
theorem dJ6_bitCount_0f7a4_17 : decode cJ6_bitCount_0f7a4 17 = .ok (.iushr, 1) := by decide +kernel
theorem dJ6_bitCount_0f7a4_18 : decode cJ6_bitCount_0f7a4 18 = .ok (.ldc_w 266, 3) := by decide +kernel
theorem dJ6_bitCount_0f7a4_21 : decode cJ6_bitCount_0f7a4 21 = .ok (.iand, 1) := by decide +kernel
theorem dJ6_bitCount_0f7a4_22 : decode cJ6_bitCount_0f7a4 22 = .ok (.iadd, 1) := by decide +kernel
theorem dJ6_bitCount_0f7a4_23 : decode cJ6_bitCount_0f7a4 23 = .ok (.istore_n 0, 1) := by decide +kernel
theorem dJ6_bitCount_0f7a4_24 : decode cJ6_bitCount_0f7a4 24 = .ok (.iload_n 0, 1) := by decide +kernel
theorem dJ6_bitCount_0f7a4_25 : decode cJ6_bitCount_0f7a4 25 = .ok (.iload_n 0, 1) := by decide +kernel
theorem dJ6_bitCount_0f7a4_26 : decode cJ6_bitCount_0f7a4 26 = .ok (.iconst 4, 1) := by decide +kernel
theorem dJ6_bitCount_0f7a4_27 : decode cJ6_bitCount_0f7a4 27 = .ok (.iushr, 1) := by decide +kernel
theorem dJ6_bitCount_0f7a4_28 : decode cJ6_bitCount_0f7a4 28 = .ok (.iadd, 1) := by decide +kernel
theorem dJ6_bitCount_0f7a4_29 : decode cJ6_bitCount_0f7a4 29 = .ok (.ldc_w 267, 3) := by decide +kernel
theorem dJ6_bitCount_0f7a4_32 : decode cJ6_bitCount_0f7a4 32 = .ok (.iand, 1) := by decide +kernel
theorem dJ6_bitCount_0f7a4_33 : decode cJ6_bitCount_0f7a4 33 = .ok (.istore_n 0, 1) := by decide +kernel
theorem dJ6_bitCount_0f7a4_34 : decode cJ6_bitCount_0f7a4 34 = .ok (.iload_n 0, 1) := by decide +kernel
theorem dJ6_bitCount_0f7a4_35 : decode cJ6_bitCount_0f7a4 35 = .ok (.iload_n 0, 1) := by decide +kernel
theorem dJ6_bitCount_0f7a4_36 : decode cJ6_bitCount_0f7a4 36 = .ok (.bipush 8, 2) := by decide +kernel
theorem dJ6_bitCount_0f7a4_38 : decode cJ6_bitCount_0f7a4 38 = .ok (.iushr, 1) := by decide +kernel
theorem dJ6_bitCount_0f7a4_39 : decode cJ6_bitCount_0f7a4 39 = .ok (.iadd, 1) := by decide +kernel
theorem dJ6_bitCount_0f7a4_40 : decode cJ6_bitCount_0f7a4 40 = .ok (.istore_n 0, 1) := by decide +kernel
theorem dJ6_bitCount_0f7a4_41 : decode cJ6_bitCount_0f7a4 41 = .ok (.iload_n 0, 1) := by decide +kernel
theorem dJ6_bitCount_0f7a4_42 : decode cJ6_bitCount_0f7a4 42 = .ok (.iload_n 0, 1) := by decide +kernel
theorem dJ6_bitCount_0f7a4_43 : decode cJ6_bitCount_0f7a4 43 = .ok (.bipush 16, 2) := by decide +kernel
theorem dJ6_bitCount_0f7a4_45 : decode cJ6_bitCount_0f7a4 45 = .ok (.iushr, 1) := by decide +kernel
theorem dJ6_bitCount_0f7a4_46 : decode cJ6_bitCount_0f7a4 46 = .ok (.iadd, 1) := by decide +kernel
theorem dJ6_bitCount_0f7a4_47 : decode cJ6_bitCount_0f7a4 47 = .ok (.istore_n 0, 1) := by decide +kernel
theorem dJ6_bitCount_0f7a4_48 : decode cJ6_bitCount_0f7a4 48 = .ok (.iload_n 0, 1) := by decide +kernel
theorem dJ6_bitCount_0f7a4_49 : decode cJ6_bitCount_0f7a4 49 = .ok (.bipush 63, 2) := by decide +kernel
theorem dJ6_bitCount_0f7a4_51 : decode cJ6_bitCount_0f7a4 51 = .ok (.iand, 1) := by decide +kernel
theorem dJ6_bitCount_0f7a4_52 : decode cJ6_bitCount_0f7a4 52 = .ok (.ireturn, 1) := by decide +kernel
theorem dJ13_bitCount_95d88_0 : decode cJ13_bitCount_95d88 0 = .ok (.lload_n 0, 1) := by decide +kernel
theorem dJ13_bitCount_95d88_1 : decode cJ13_bitCount_95d88 1 = .ok (.lload_n 0, 1) := by decide +kernel
theorem dJ13_bitCount_95d88_2 : decode cJ13_bitCount_95d88 2 = .ok (.iconst 1, 1) := by decide +kernel
theorem dJ13_bitCount_95d88_3 : decode cJ13_bitCount_95d88 3 = .ok (.lushr, 1) := by decide +kernel
theorem dJ13_bitCount_95d88_4 : decode cJ13_bitCount_95d88 4 = .ok (.ldc2_w 314, 3) := by decide +kernel
theorem dJ13_bitCount_95d88_7 : decode cJ13_bitCount_95d88 7 = .ok (.land, 1) := by decide +kernel
theorem dJ13_bitCount_95d88_8 : decode cJ13_bitCount_95d88 8 = .ok (.lsub, 1) := by decide +kernel
theorem dJ13_bitCount_95d88_9 : decode cJ13_bitCount_95d88 9 = .ok (.lstore_n 0, 1) := by decide +kernel
theorem dJ13_bitCount_95d88_10 : decode cJ13_bitCount_95d88 10 = .ok (.lload_n 0, 1) := by decide +kernel
theorem dJ13_bitCount_95d88_11 : decode cJ13_bitCount_95d88 11 = .ok (.ldc2_w 316, 3) := by decide +kernel
theorem dJ13_bitCount_95d88_14 : decode cJ13_bitCount_95d88 14 = .ok (.land, 1) := by decide +kernel
theorem dJ13_bitCount_95d88_15 : decode cJ13_bitCount_95d88 15 = .ok (.lload_n 0, 1) := by decide +kernel
theorem dJ13_bitCount_95d88_16 : decode cJ13_bitCount_95d88 16 = .ok (.iconst 2, 1) := by decide +kernel
theorem dJ13_bitCount_95d88_17 : decode cJ13_bitCount_95d88 17 = .ok (.lushr, 1) := by decide +kernel
theorem dJ13_bitCount_95d88_18 : decode cJ13_bitCount_95d88 18 = .ok (.ldc2_w 316, 3) := by decide +kernel
theorem dJ13_bitCount_95d88_21 : decode cJ13_bitCount_95d88 21 = .ok (.land, 1) := by decide +kernel
theorem dJ13_bitCount_95d88_22 : decode cJ13_bitCount_95d88 22 = .ok (.ladd, 1) := by decide +kernel
theorem dJ13_bitCount_95d88_23 : decode cJ13_bitCount_95d88 23 = .ok (.lstore_n 0, 1) := by decide +kernel
theorem dJ13_bitCount_95d88_24 : decode cJ13_bitCount_95d88 24 = .ok (.lload_n 0, 1) := by decide +kernel
theorem dJ13_bitCount_95d88_25 : decode cJ13_bitCount_95d88 25 = .ok (.lload_n 0, 1) := by decide +kernel
theorem dJ13_bitCount_95d88_26 : decode cJ13_bitCount_95d88 26 = .ok (.iconst 4, 1) := by decide +kernel
theorem dJ13_bitCount_95d88_27 : decode cJ13_bitCount_95d88 27 = .ok (.lushr, 1) := by decide +kernel
theorem dJ13_bitCount_95d88_28 : decode cJ13_bitCount_95d88 28 = .ok (.ladd, 1) := by decide +kernel
theorem dJ13_bitCount_95d88_29 : decode cJ13_bitCount_95d88 29 = .ok (.ldc2_w 318, 3) := by decide +kernel
theorem dJ13_bitCount_95d88_32 : decode cJ13_bitCount_95d88 32 = .ok (.land, 1) := by decide +kernel
theorem dJ13_bitCount_95d88_33 : decode cJ13_bitCount_95d88 33 = .ok (.lstore_n 0, 1) := by decide +kernel
theorem dJ13_bitCount_95d88_34 : decode cJ13_bitCount_95d88 34 = .ok (.lload_n 0, 1) := by decide +kernel
theorem dJ13_bitCount_95d88_35 : decode cJ13_bitCount_95d88 35 = .ok (.lload_n 0, 1) := by decide +kernel
theorem dJ13_bitCount_95d88_36 : decode cJ13_bitCount_95d88 36 = .ok (.bipush 8, 2) := by decide +kernel
theorem dJ13_bitCount_95d88_38 : decode cJ13_bitCount_95d88 38 = .ok (.lushr, 1) := by decide +kernel
theorem dJ13_bitCount_95d88_39 : decode cJ13_bitCount_95d88 39 = .ok (.ladd, 1) := by decide +kernel
theorem dJ13_bitCount_95d88_40 : decode cJ13_bitCount_95d88 40 = .ok (.lstore_n 0, 1) := by decide +kernel
theorem dJ13_bitCount_95d88_41 : decode cJ13_bitCount_95d88 41 = .ok (.lload_n 0, 1) := by decide +kernel
theorem dJ13_bitCount_95d88_42 : decode cJ13_bitCount_95d88 42 = .ok (.lload_n 0, 1) := by decide +kernel
theorem dJ13_bitCount_95d88_43 : decode cJ13_bitCount_95d88 43 = .ok (.bipush 16, 2) := by decide +kernel
theorem dJ13_bitCount_95d88_45 : decode cJ13_bitCount_95d88 45 = .ok (.lushr, 1) := by decide +kernel
theorem dJ13_bitCount_95d88_46 : decode cJ13_bitCount_95d88 46 = .ok (.ladd, 1) := by decide +kernel
theorem dJ13_bitCount_95d88_47 : decode cJ13_bitCount_95d88 47 = .ok (.lstore_n 0, 1) := by decide +kernel
theorem dJ13_bitCount_95d88_48 : decode cJ13_bitCount_95d88 48 = .ok (.lload_n 0, 1) := by decide +kernel
theorem dJ13_bitCount_95d88_49 : decode cJ13_bitCount_95d88 49 = .ok (.lload_n 0, 1) := by decide +kernel
theorem dJ13_bitCount_95d88_50 : decode cJ13_bitCount_95d88 50 = .ok (.bipush 32, 2) := by decide +kernel
theorem dJ13_bitCount_95d88_52 : decode cJ13_bitCount_95d88 52 = .ok (.lushr, 1) := by decide +kernel
theorem dJ13_bitCount_95d88_53 : decode cJ13_bitCount_95d88 53 = .ok (.ladd, 1) := by decide +kernel
theorem dJ13_bitCount_95d88_54 : decode cJ13_bitCount_95d88 54 = .ok (.lstore_n 0, 1) := by decide +kernel
theorem dJ13_bitCount_95d88_55 : decode cJ13_bitCount_95d88 55 = .ok (.lload_n 0, 1) := by decide +kernel
theorem dJ13_bitCount_95d88_56 : decode cJ13_bitCount_95d88 56 = .ok (.l2i, 1) := by decide +kernel
theorem dJ13_bitCount_95d88_57 : decode cJ13_bitCount_95d88 57 = .ok (.bipush 127, 2) := by decide +kernel
theorem dJ13_bitCount_95d88_59 : decode cJ13_bitCount_95d88 59 = .ok (.iand, 1) := by decide +kernel
theorem dJ13_bitCount_95d88_60 : decode cJ13_bitCount_95d88 60 = .ok (.ireturn, 1) := by decide +kernel
theorem dJ9_abs_0f7a4_0 : decode cJ9_abs_0f7a4 0 = .ok (.iload_n 0, 1) := by decide +kernel
theorem dJ9_abs_0f7a4_1 : decode cJ9_abs_0f7a4 1 = .ok (.ifCond .ge 8, 3) := by decide +kernel
theorem dJ9_abs_0f7a4_4 : decode cJ9_abs_0f7a4 4 = .ok (.iload_n 0, 1) := by decide +kernel
theorem dJ9_abs_0f7a4_5 : decode cJ9_abs_0f7a4 5 = .ok (.ineg, 1) := by decide +kernel
theorem dJ9_abs_0f7a4_6 : decode cJ9_abs_0f7a4 6 = .ok (.goto 4, 3) := by decide +kernel
theorem dJ9_abs_0f7a4_9 : decode cJ9_abs_0f7a4 9 = .ok (.iload_n 0, 1) := by decide +kernel
theorem dJ9_abs_0f7a4_10 : decode cJ9_abs_0f7a4 10 = .ok (.ireturn, 1) := by decide +kernel
theorem dJ9_abs_067f4_0 : decode cJ9_abs_067f4 0 = .ok (.lload_n 0, 1) := by decide +kernel
theorem dJ9_abs_067f4_1 : decode cJ9_abs_067f4 1 = .ok (.lconst 0, 1) := by decide +kernel
theorem dJ9_abs_067f4_2 : decode cJ9_abs_067f4 2 = .ok (.lcmp, 1) := by decide +kernel
theorem dJ9_abs_067f4_3 : decode cJ9_abs_067f4 3 = .ok (.ifCond .ge 8, 3) := by decide +kernel
theorem dJ9_abs_067f4_6 : decode cJ9_abs_067f4 6 = .ok (.lload_n 0, 1) := by decide +kernel
theorem dJ9_abs_067f4_7 : decode cJ9_abs_067f4 7 = .ok (.lneg, 1) := by decide +kernel
theorem dJ9_abs_067f4_8 : decode cJ9_abs_067f4 8 = .ok (.goto 4, 3) := by decide +kernel
theorem dJ9_abs_067f4_11 : decode cJ9_abs_067f4 11 = .ok (.lload_n 0, 1) := by decide +kernel
theorem dJ9_abs_067f4_12 : decode cJ9_abs_067f4 12 = .ok (.lreturn, 1) := by decide +kernel
theorem dJ9_max_7cf53_0 : decode cJ9_max_7cf53 0 = .ok (.iload_n 0, 1) := by decide +kernel
theorem dJ9_max_7cf53_1 : decode cJ9_max_7cf53 1 = .ok (.iload_n 1, 1) := by decide +kernel
theorem dJ9_max_7cf53_2 : decode cJ9_max_7cf53 2 = .ok (.if_icmp .lt 7, 3) := by decide +kernel
theorem dJ9_max_7cf53_5 : decode cJ9_max_7cf53 5 = .ok (.iload_n 0, 1) := by decide +kernel
theorem dJ9_max_7cf53_6 : decode cJ9_max_7cf53 6 = .ok (.goto 4, 3) := by decide +kernel
theorem dJ9_max_7cf53_9 : decode cJ9_max_7cf53 9 = .ok (.iload_n 1, 1) := by decide +kernel
theorem dJ9_max_7cf53_10 : decode cJ9_max_7cf53 10 = .ok (.ireturn, 1) := by decide +kernel
theorem dJ9_min_7cf53_0 : decode cJ9_min_7cf53 0 = .ok (.iload_n 0, 1) := by decide +kernel
theorem dJ9_min_7cf53_1 : decode cJ9_min_7cf53 1 = .ok (.iload_n 1, 1) := by decide +kernel
theorem dJ9_min_7cf53_2 : decode cJ9_min_7cf53 2 = .ok (.if_icmp .gt 7, 3) := by decide +kernel
theorem dJ9_min_7cf53_5 : decode cJ9_min_7cf53 5 = .ok (.iload_n 0, 1) := by decide +kernel
theorem dJ9_min_7cf53_6 : decode cJ9_min_7cf53 6 = .ok (.goto 4, 3) := by decide +kernel
theorem dJ9_min_7cf53_9 : decode cJ9_min_7cf53 9 = .ok (.iload_n 1, 1) := by decide +kernel
theorem dJ9_min_7cf53_10 : decode cJ9_min_7cf53 10 = .ok (.ireturn, 1) := by decide +kernel
theorem dJ9_min_f86c9_0 : decode cJ9_min_f86c9 0 = .ok (.lload_n 0, 1) := by decide +kernel
theorem dJ9_min_f86c9_1 : decode cJ9_min_f86c9 1 = .ok (.lload_n 2, 1) := by decide +kernel
theorem dJ9_min_f86c9_2 : decode cJ9_min_f86c9 2 = .ok (.lcmp, 1) := by decide +kernel
theorem dJ9_min_f86c9_3 : decode cJ9_min_f86c9 3 = .ok (.ifCond .gt 7, 3) := by decide +kernel
theorem dJ9_min_f86c9_6 : decode cJ9_min_f86c9 6 = .ok (.lload_n 0, 1) := by decide +kernel
theorem dJ9_min_f86c9_7 : decode cJ9_min_f86c9 7 = .ok (.goto 4, 3) := by decide +kernel
theorem dJ9_min_f86c9_10 : decode cJ9_min_f86c9 10 = .ok (.lload_n 2, 1) := by decide +kernel
theorem dJ9_min_f86c9_11 : decode cJ9_min_f86c9 11 = .ok (.lreturn, 1) := by decide +kernel
theorem dJ0_length_8abf5_0 : decode cJ0_length_8abf5 0 = .ok (.aload_n 0, 1) := by decide +kernel
theorem dJ0_length_8abf5_1 : decode cJ0_length_8abf5 1 = .ok (.getfield 9, 3) := by decide +kernel
theorem dJ0_length_8abf5_4 : decode cJ0_length_8abf5 4 = .ok (.arraylength, 1) := by decide +kernel
theorem dJ0_length_8abf5_5 : decode cJ0_length_8abf5 5 = .ok (.aload_n 0, 1) := by decide +kernel
theorem dJ0_length_8abf5_6 : decode cJ0_length_8abf5 6 = .ok (.invokevirtual 335, 3) := by decide +kernel
theorem dJ0_length_8abf5_9 : decode cJ0_length_8abf5 9 = .ok (.ishr, 1) := by decide +kernel
theorem dJ0_length_8abf5_10 : decode cJ0_length_8abf5 10 = .ok (.ireturn, 1) := by decide +kernel
theorem dJ0_charAt_5068e_0 : decode cJ0_charAt_5068e 0 = .ok (.aload_n 0, 1) := by decide +kernel
theorem dJ0_charAt_5068e_1 : decode cJ0_charAt_5068e 1 = .ok (.invokevirtual 492, 3) := by decide +kernel
theorem dJ0_charAt_5068e_4 : decode cJ0_charAt_5068e 4 = .ok (.ifCond .eq 12, 3) := by decide +kernel
theorem dJ0_charAt_5068e_7 : decode cJ0_charAt_5068e 7 = .ok (.aload_n 0, 1) := by decide +kernel
theorem dJ0_charAt_5068e_8 : decode cJ0_charAt_5068e 8 = .ok (.getfield 9, 3) := by decide +kernel
theorem dJ0_charAt_5068e_11 : decode cJ0_charAt_5068e 11 = .ok (.iload_n 1, 1) := by decide +kernel
theorem dJ0_charAt_5068e_12 : decode cJ0_charAt_5068e 12 = .ok (.invokestatic 495, 3) := by decide +kernel
theorem dJ0_charAt_5068e_15 : decode cJ0_charAt_5068e 15 = .ok (.ireturn, 1) := by decide +kernel
theorem dJ0_charAt_5068e_16 : decode cJ0_charAt_5068e 16 = .ok (.aload_n 0, 1) := by decide +kernel
theorem dJ0_charAt_5068e_17 : decode cJ0_charAt_5068e 17 = .ok (.getfield 9, 3) := by decide +kernel
theorem dJ0_charAt_5068e_20 : decode cJ0_charAt_5068e 20 = .ok (.iload_n 1, 1) := by decide +kernel
theorem dJ0_charAt_5068e_21 : decode cJ0_charAt_5068e 21 = .ok (.invokestatic 498, 3) := by decide +kernel
theorem dJ0_charAt_5068e_24 : decode cJ0_charAt_5068e 24 = .ok (.ireturn, 1) := by decide +kernel
theorem dJ0_coder_7d493_0 : decode cJ0_coder_7d493 0 = .ok (.getstatic 38, 3) := by decide +kernel
theorem dJ0_coder_7d493_3 : decode cJ0_coder_7d493 3 = .ok (.ifCond .eq 10, 3) := by decide +kernel
theorem dJ0_coder_7d493_6 : decode cJ0_coder_7d493 6 = .ok (.aload_n 0, 1) := by decide +kernel
theorem dJ0_coder_7d493_7 : decode cJ0_coder_7d493 7 = .ok (.getfield 15, 3) := by decide +kernel
theorem dJ0_coder_7d493_10 : decode cJ0_coder_7d493 10 = .ok (.goto 4, 3) := by decide +kernel
theorem dJ0_coder_7d493_13 : decode cJ0_coder_7d493 13 = .ok (.iconst 1, 1) := by decide +kernel
theorem dJ0_coder_7d493_14 : decode cJ0_coder_7d493 14 = .ok (.ireturn, 1) := by decide +kernel
theorem dJ0_isLatin1_aae02_0 : decode cJ0_isLatin1_aae02 0 = .ok (.getstatic 38, 3) := by decide +kernel
theorem dJ0_isLatin1_aae02_3 : decode cJ0_isLatin1_aae02 3 = .ok (.ifCond .eq 14, 3) := by decide +kernel
theorem dJ0_isLatin1_aae02_6 : decode cJ0_isLatin1_aae02 6 = .ok (.aload_n 0, 1) := by decide +kernel
theorem dJ0_isLatin1_aae02_7 : decode cJ0_isLatin1_aae02 7 = .ok (.getfield 15, 3) := by decide +kernel
theorem dJ0_isLatin1_aae02_10 : decode cJ0_isLatin1_aae02 10 = .ok (.ifCond .ne 7, 3) := by decide +kernel
theorem dJ0_isLatin1_aae02_13 : decode cJ0_isLatin1_aae02 13 = .ok (.iconst 1, 1) := by decide +kernel
theorem dJ0_isLatin1_aae02_14 : decode cJ0_isLatin1_aae02 14 = .ok (.goto 4, 3) := by decide +kernel
theorem dJ0_isLatin1_aae02_17 : decode cJ0_isLatin1_aae02 17 = .ok (.iconst 0, 1) := by decide +kernel
theorem dJ0_isLatin1_aae02_18 : decode cJ0_isLatin1_aae02 18 = .ok (.ireturn, 1) := by decide +kernel
theorem dJ0_checkIndex_df160_0 : decode cJ0_checkIndex_df160 0 = .ok (.iload_n 0, 1) := by decide +kernel
theorem dJ0_checkIndex_df160_1 : decode cJ0_checkIndex_df160 1 = .ok (.iload_n 1, 1) := by decide +kernel
theorem dJ0_checkIndex_df160_2 : decode cJ0_checkIndex_df160 2 = .ok (.getstatic 1053, 3) := by decide +kernel
theorem dJ0_checkIndex_df160_5 : decode cJ0_checkIndex_df160 5 = .ok (.invokestatic 1059, 3) := by decide +kernel
theorem dJ0_checkIndex_df160_8 : decode cJ0_checkIndex_df160 8 = .ok (.pop, 1) := by decide +kernel
theorem dJ0_checkIndex_df160_9 : decode cJ0_checkIndex_df160 9 = .ok (.return_, 1) := by decide +kernel
theorem dJ1_charAt_3b067_0 : decode cJ1_charAt_3b067 0 = .ok (.iload_n 1, 1) := by decide +kernel
theorem dJ1_charAt_3b067_1 : decode cJ1_charAt_3b067 1 = .ok (.aload_n 0, 1) := by decide +kernel
theorem dJ1_charAt_3b067_2 : decode cJ1_charAt_3b067 2 = .ok (.arraylength, 1) := by decide +kernel
theorem dJ1_charAt_3b067_3 : decode cJ1_charAt_3b067 3 = .ok (.invokestatic 9, 3) := by decide +kernel
theorem dJ1_charAt_3b067_6 : decode cJ1_charAt_3b067 6 = .ok (.aload_n 0, 1) := by decide +kernel
theorem dJ1_charAt_3b067_7 : decode cJ1_charAt_3b067 7 = .ok (.iload_n 1, 1) := by decide +kernel
theorem dJ1_charAt_3b067_8 : decode cJ1_charAt_3b067 8 = .ok (.baload, 1) := by decide +kernel
theorem dJ1_charAt_3b067_9 : decode cJ1_charAt_3b067 9 = .ok (.sipush 255, 3) := by decide +kernel
theorem dJ1_charAt_3b067_12 : decode cJ1_charAt_3b067 12 = .ok (.iand, 1) := by decide +kernel
theorem dJ1_charAt_3b067_13 : decode cJ1_charAt_3b067 13 = .ok (.i2c, 1) := by decide +kernel
theorem dJ1_charAt_3b067_14 : decode cJ1_charAt_3b067 14 = .ok (.ireturn, 1) := by decide +kernel
theorem dJ2_getChar_3b067_0 : decode cJ2_getChar_3b067 0 = .ok (.getstatic 44, 3) := by decide +kernel
theorem dJ2_getChar_3b067_3 : decode cJ2_getChar_3b067 3 = .ok (.ifCond .ne 25, 3) := by decide +kernel
theorem dJ2_getChar_3b067_6 : decode cJ2_getChar_3b067 6 = .ok (.iload_n 1, 1) := by decide +kernel
theorem dJ2_getChar_3b067_7 : decode cJ2_getChar_3b067 7 = .ok (.ifCond .lt 11, 3) := by decide +kernel
theorem dJ2_getChar_3b067_10 : decode cJ2_getChar_3b067 10 = .ok (.iload_n 1, 1) := by decide +kernel
theorem dJ2_getChar_3b067_11 : decode cJ2_getChar_3b067 11 = .ok (.aload_n 0, 1) := by decide +kernel
theorem dJ2_getChar_3b067_12 : decode cJ2_getChar_3b067 12 = .ok (.invokestatic 48, 3) := by decide +kernel
theorem dJ2_getChar_3b067_15 : decode cJ2_getChar_3b067 15 = .ok (.if_icmp .lt 13, 3) := by decide +kernel
theorem dJ2_getChar_3b067_18 : decode cJ2_getChar_3b067 18 = .ok (.new 52, 3) := by decide +kernel
theorem dJ2_getChar_3b067_21 : decode cJ2_getChar_3b067 21 = .ok (.dup, 1) := by decide +kernel
theorem dJ2_getChar_3b067_22 : decode cJ2_getChar_3b067 22 = .ok (.ldc 54, 2) := by decide +kernel
theorem dJ2_getChar_3b067_24 : decode cJ2_getChar_3b067 24 = .ok (.invokespecial 56, 3) := by decide +kernel
theorem dJ2_getChar_3b067_27 : decode cJ2_getChar_3b067 27 = .ok (.athrow, 1) := by decide +kernel
theorem dJ2_getChar_3b067_28 : decode cJ2_getChar_3b067 28 = .ok (.iload_n 1, 1) := by decide +kernel
theorem dJ2_getChar_3b067_29 : decode cJ2_getChar_3b067 29 = .ok (.iconst 1, 1) := by decide +kernel
theorem dJ2_getChar_3b067_30 : decode cJ2_getChar_3b067 30 = .ok (.ishl, 1) := by decide +kernel
theorem dJ2_getChar_3b067_31 : decode cJ2_getChar_3b067 31 = .ok (.istore_n 1, 1) := by decide +kernel
theorem dJ2_getChar_3b067_32 : decode cJ2_getChar_3b067 32 = .ok (.aload_n 0, 1) := by decide +kernel
theorem dJ2_getChar_3b067_33 : decode cJ2_getChar_3b067 33 = .ok (.iload_n 1, 1) := by decide +kernel
theorem dJ2_getChar_3b067_34 : decode cJ2_getChar_3b067 34 = .ok (.iinc 1 1, 3) := by decide +kernel
theorem dJ2_getChar_3b067_37 : decode cJ2_getChar_3b067 37 = .ok (.baload, 1) := by decide +kernel
theorem dJ2_getChar_3b067_38 : decode cJ2_getChar_3b067 38 = .ok (.sipush 255, 3) := by decide +kernel
theorem dJ2_getChar_3b067_41 : decode cJ2_getChar_3b067 41 = .ok (.iand, 1) := by decide +kernel
theorem dJ2_getChar_3b067_42 : decode cJ2_getChar_3b067 42 = .ok (.getstatic 59, 3) := by decide +kernel
theorem dJ2_getChar_3b067_45 : decode cJ2_getChar_3b067 45 = .ok (.ishl, 1) := by decide +kernel
theorem dJ2_getChar_3b067_46 : decode cJ2_getChar_3b067 46 = .ok (.aload_n 0, 1) := by decide +kernel
theorem dJ2_getChar_3b067_47 : decode cJ2_getChar_3b067 47 = .ok (.iload_n 1, 1) := by decide +kernel
theorem dJ2_getChar_3b067_48 : decode cJ2_getChar_3b067 48 = .ok (.baload, 1) := by decide +kernel
theorem dJ2_getChar_3b067_49 : decode cJ2_getChar_3b067 49 = .ok (.sipush 255, 3) := by decide +kernel
theorem dJ2_getChar_3b067_52 : decode cJ2_getChar_3b067 52 = .ok (.iand, 1) := by decide +kernel
theorem dJ2_getChar_3b067_53 : decode cJ2_getChar_3b067 53 = .ok (.getstatic 63, 3) := by decide +kernel
theorem dJ2_getChar_3b067_56 : decode cJ2_getChar_3b067 56 = .ok (.ishl, 1) := by decide +kernel
theorem dJ2_getChar_3b067_57 : decode cJ2_getChar_3b067 57 = .ok (.ior, 1) := by decide +kernel
theorem dJ2_getChar_3b067_58 : decode cJ2_getChar_3b067 58 = .ok (.i2c, 1) := by decide +kernel
theorem dJ2_getChar_3b067_59 : decode cJ2_getChar_3b067 59 = .ok (.ireturn, 1) := by decide +kernel
theorem dJ2_length_9d52b_0 : decode cJ2_length_9d52b 0 = .ok (.aload_n 0, 1) := by decide +kernel
theorem dJ2_length_9d52b_1 : decode cJ2_length_9d52b 1 = .ok (.arraylength, 1) := by decide +kernel
theorem dJ2_length_9d52b_2 : decode cJ2_length_9d52b 2 = .ok (.iconst 1, 1) := by decide +kernel
theorem dJ2_length_9d52b_3 : decode cJ2_length_9d52b 3 = .ok (.ishr, 1) := by decide +kernel
theorem dJ2_length_9d52b_4 : decode cJ2_length_9d52b 4 = .ok (.ireturn, 1) := by decide +kernel
theorem dJ2_charAt_3b067_0 : decode cJ2_charAt_3b067 0 = .ok (.iload_n 1, 1) := by decide +kernel
theorem dJ2_charAt_3b067_1 : decode cJ2_charAt_3b067 1 = .ok (.aload_n 0, 1) := by decide +kernel
theorem dJ2_charAt_3b067_2 : decode cJ2_charAt_3b067 2 = .ok (.invokestatic 67, 3) := by decide +kernel
theorem dJ2_charAt_3b067_5 : decode cJ2_charAt_3b067 5 = .ok (.aload_n 0, 1) := by decide +kernel
theorem dJ2_charAt_3b067_6 : decode cJ2_charAt_3b067 6 = .ok (.iload_n 1, 1) := by decide +kernel
theorem dJ2_charAt_3b067_7 : decode cJ2_charAt_3b067 7 = .ok (.invokestatic 71, 3) := by decide +kernel
theorem dJ2_charAt_3b067_10 : decode cJ2_charAt_3b067 10 = .ok (.ireturn, 1) := by decide +kernel
theorem dJ2_checkIndex_2214a_0 : decode cJ2_checkIndex_2214a 0 = .ok (.iload_n 0, 1) := by decide +kernel
theorem dJ2_checkIndex_2214a_1 : decode cJ2_checkIndex_2214a 1 = .ok (.aload_n 1, 1) := by decide +kernel
theorem dJ2_checkIndex_2214a_2 : decode cJ2_checkIndex_2214a 2 = .ok (.invokestatic 48, 3) := by decide +kernel
theorem dJ2_checkIndex_2214a_5 : decode cJ2_checkIndex_2214a 5 = .ok (.invokestatic 414, 3) := by decide +kernel
theorem dJ2_checkIndex_2214a_8 : decode cJ2_checkIndex_2214a 8 = .ok (.return_, 1) := by decide +kernel
theorem dJ7_fill_d0a16_0 : decode cJ7_fill_d0a16 0 = .ok (.iconst 0, 1) := by decide +kernel
theorem dJ7_fill_d0a16_1 : decode cJ7_fill_d0a16 1 = .ok (.istore_n 3, 1) := by decide +kernel
theorem dJ7_fill_d0a16_2 : decode cJ7_fill_d0a16 2 = .ok (.aload_n 0, 1) := by decide +kernel
theorem dJ7_fill_d0a16_3 : decode cJ7_fill_d0a16 3 = .ok (.arraylength, 1) := by decide +kernel
theorem dJ7_fill_d0a16_4 : decode cJ7_fill_d0a16 4 = .ok (.istore 4, 2) := by decide +kernel
theorem dJ7_fill_d0a16_6 : decode cJ7_fill_d0a16 6 = .ok (.iload_n 3, 1) := by decide +kernel
theorem dJ7_fill_d0a16_7 : decode cJ7_fill_d0a16 7 = .ok (.iload 4, 2) := by decide +kernel
theorem dJ7_fill_d0a16_9 : decode cJ7_fill_d0a16 9 = .ok (.if_icmp .ge 13, 3) := by decide +kernel
theorem dJ7_fill_d0a16_12 : decode cJ7_fill_d0a16 12 = .ok (.aload_n 0, 1) := by decide +kernel
theorem dJ7_fill_d0a16_13 : decode cJ7_fill_d0a16 13 = .ok (.iload_n 3, 1) := by decide +kernel
theorem dJ7_fill_d0a16_14 : decode cJ7_fill_d0a16 14 = .ok (.lload_n 1, 1) := by decide +kernel
theorem dJ7_fill_d0a16_15 : decode cJ7_fill_d0a16 15 = .ok (.lastore, 1) := by decide +kernel
theorem dJ7_fill_d0a16_16 : decode cJ7_fill_d0a16 16 = .ok (.iinc 3 1, 3) := by decide +kernel
theorem dJ7_fill_d0a16_19 : decode cJ7_fill_d0a16 19 = .ok (.goto (-13), 3) := by decide +kernel
theorem dJ7_fill_d0a16_22 : decode cJ7_fill_d0a16 22 = .ok (.return_, 1) := by decide +kernel
theorem dJ3_checkIndex_8e157_0 : decode cJ3_checkIndex_8e157 0 = .ok (.iload_n 0, 1) := by decide +kernel
theorem dJ3_checkIndex_8e157_1 : decode cJ3_checkIndex_8e157 1 = .ok (.ifCond .lt 8, 3) := by decide +kernel
theorem dJ3_checkIndex_8e157_4 : decode cJ3_checkIndex_8e157 4 = .ok (.iload_n 0, 1) := by decide +kernel
theorem dJ3_checkIndex_8e157_5 : decode cJ3_checkIndex_8e157 5 = .ok (.iload_n 1, 1) := by decide +kernel
theorem dJ3_checkIndex_8e157_6 : decode cJ3_checkIndex_8e157 6 = .ok (.if_icmp .lt 10, 3) := by decide +kernel
theorem dJ3_checkIndex_8e157_9 : decode cJ3_checkIndex_8e157 9 = .ok (.aload_n 2, 1) := by decide +kernel
theorem dJ3_checkIndex_8e157_10 : decode cJ3_checkIndex_8e157 10 = .ok (.iload_n 0, 1) := by decide +kernel
theorem dJ3_checkIndex_8e157_11 : decode cJ3_checkIndex_8e157 11 = .ok (.iload_n 1, 1) := by decide +kernel
theorem dJ3_checkIndex_8e157_12 : decode cJ3_checkIndex_8e157 12 = .ok (.invokestatic 95, 3) := by decide +kernel
theorem dJ3_checkIndex_8e157_15 : decode cJ3_checkIndex_8e157 15 = .ok (.athrow, 1) := by decide +kernel
theorem dJ3_checkIndex_8e157_16 : decode cJ3_checkIndex_8e157 16 = .ok (.iload_n 0, 1) := by decide +kernel
theorem dJ3_checkIndex_8e157_17 : decode cJ3_checkIndex_8e157 17 = .ok (.ireturn, 1) := by decide +kernel
end
section
/-! THE ENVIRONMENT AND THE WORLD: all cells of the class (0..25) and of the reference (26..35) in one list; a method's contract is over the abstract heap Hp -/
abbrev EN : Type := Launch × va_G × (Nat → Nat) × (ClassId × ClassId × ClassId × ClassId × ClassId) × Nat × (Nat → Nat) × (Nat → Nat)
def eL (E : EN) : Launch := E.1
def eD (E : EN) : va_G := E.2.1
def eA (E : EN) : Nat → Nat := E.2.2.1
def eI (E : EN) : ClassId := E.2.2.2.1.1
def eB (E : EN) : ClassId := E.2.2.2.1.2.1
def eJ (E : EN) : ClassId := E.2.2.2.1.2.2.1
def eZ (E : EN) : ClassId := E.2.2.2.1.2.2.2.1
def eG (E : EN) : ClassId := E.2.2.2.1.2.2.2.2
def eM (E : EN) : Nat := E.2.2.2.2.1
def eK (E : EN) : Nat → Nat := E.2.2.2.2.2.1
def eV (E : EN) : Nat → Nat := E.2.2.2.2.2.2
abbrev tys (E : EN) : List (ClassId × FieldType) := [(eI E, .int), (eB E, .byte), (eJ E, .long), (eZ E, .boolean), (eG E, .array .int)]
abbrev classes : List vw_C := [(RX0, TX0, 10), (RX1, TX1, 3), (RX2, TX2, 2), (RX3, TX3, 3), (RX4, TX4, 7), (RX5, TX5, 9), (RX6, TX6, 23)]
abbrev TX : Type := Int32 × Int32 × Int32
abbrev TR : Type := Int32 × Int32 × (Nat → Nat → Int32)
abbrev TC : Type := Int32 × Int32 × Int32 × Int32 × Int32 × Int32 × (Nat → Int32) × (Nat → Int32) × (Nat → Int32) × (Nat → Int32)

abbrev TK : Type := Int32 × Int32 × (Nat → Int64)
abbrev TS : Type := Int32 × Int32 × Int32 × Int32 × (Nat → Int32) × (Nat → Int32) × (Nat → Int32)
abbrev TP : Type := Int32 × (Nat → Int32)
abbrev TM : Type := Int32 × Int32 × Int32 × Int32 × Int32 × Int32 × Int32 × Int32 × Int32 × Int32 × Int32 × Int32 × Int32 × Int32 × (Nat → Int32) × (Nat → Int32) × (Nat → Int32) × (Nat → Int32) × (Nat → Int32) × (Nat → Int32) × (Nat → Int32) × (Nat → Int32) × (Nat → Int32)
abbrev Hp : Type := TX × TR × TC × TC × TK × TS × TP × TM
def wX (E : EN) (x : TX) : va_W := [(eA E 0, .inr (5, [.ref (eA E 1), .ref (eA E 8), .ref (eA E 13), .ref (eA E 18), .ref (eA E 20), .ref (eA E 24), .int x.1, .int x.2.1, .int x.2.2]))]
def wR (E : EN) (x : TR) : va_W := [(eA E 1, .inr (3, [.ref (eA E 2), .int x.1, .int x.2.1])), (eA E 2, .inl (eG E, 5, .inr (.inr (.inr (.inr (fun i => if i < 5 then some (eA E (3 + i)) else none)))))), (eA E 3, .inl (eI E, 12, .inl (x.2.2 0))), (eA E 4, .inl (eI E, 12, .inl (x.2.2 1))), (eA E 5, .inl (eI E, 12, .inl (x.2.2 2))), (eA E 6, .inl (eI E, 12, .inl (x.2.2 3))), (eA E 7, .inl (eI E, 12, .inl (x.2.2 4)))]
def wC (E : EN) (o : Nat) (x : TC) : va_W := [(eA E (o + 0), .inr (0, [.ref (eA E (o + 1)), .ref (eA E (o + 2)), .ref (eA E (o + 3)), .ref (eA E (o + 4)), .int x.1, .int x.2.1, .int x.2.2.1, .int x.2.2.2.1, .int x.2.2.2.2.1, .int x.2.2.2.2.2.1])), (eA E (o + 1), .inl (eI E, 12, .inl x.2.2.2.2.2.2.1)), (eA E (o + 2), .inl (eI E, 12, .inl x.2.2.2.2.2.2.2.1)), (eA E (o + 3), .inl (eI E, 12, .inl x.2.2.2.2.2.2.2.2.1)), (eA E (o + 4), .inl (eI E, 12, .inl x.2.2.2.2.2.2.2.2.2))]
def wK (E : EN) (x : TK) : va_W := [(eA E 18, .inr (1, [.ref (eA E 19), .int x.1, .int x.2.1])), (eA E 19, .inl (eJ E, 64, .inr (.inl x.2.2)))]
def wS (E : EN) (x : TS) : va_W := [(eA E 20, .inr (4, [.ref (eA E 21), .ref (eA E 22), .ref (eA E 23), .int x.1, .int x.2.1, .int x.2.2.1, .int x.2.2.2.1])), (eA E 21, .inl (eB E, 120, .inl x.2.2.2.2.1)), (eA E 22, .inl (eI E, 30, .inl x.2.2.2.2.2.1)), (eA E 23, .inl (eI E, 150, .inl x.2.2.2.2.2.2))]
def wP (E : EN) (x : TP) : va_W := [(eA E 24, .inr (2, [.ref (eA E 25), .int x.1])), (eA E 25, .inl (eB E, 300, .inl x.2))]
def wM (E : EN) (x : TM) : va_W := [(eA E 26, .inr (6, [.ref (eA E 27), .int x.1, .int x.2.1, .int x.2.2.1, .ref (eA E 28), .ref (eA E 29), .int x.2.2.2.1, .int x.2.2.2.2.1, .ref (eA E 30), .int x.2.2.2.2.2.1, .int x.2.2.2.2.2.2.1, .int x.2.2.2.2.2.2.2.1, .ref (eA E 31), .int x.2.2.2.2.2.2.2.2.1, .int x.2.2.2.2.2.2.2.2.2.1, .int x.2.2.2.2.2.2.2.2.2.2.1, .ref (eA E 32), .ref (eA E 33), .int x.2.2.2.2.2.2.2.2.2.2.2.1, .ref (eA E 34), .int x.2.2.2.2.2.2.2.2.2.2.2.2.1, .int x.2.2.2.2.2.2.2.2.2.2.2.2.2.1, .ref (eA E 35)])), (eA E 27, .inl (eI E, 60, .inl x.2.2.2.2.2.2.2.2.2.2.2.2.2.2.1)), (eA E 28, .inl (eI E, 3, .inl x.2.2.2.2.2.2.2.2.2.2.2.2.2.2.2.1)), (eA E 29, .inl (eI E, 12, .inl x.2.2.2.2.2.2.2.2.2.2.2.2.2.2.2.2.1)), (eA E 30, .inl (eI E, 36, .inl x.2.2.2.2.2.2.2.2.2.2.2.2.2.2.2.2.2.1)), (eA E 31, .inl (eI E, 36, .inl x.2.2.2.2.2.2.2.2.2.2.2.2.2.2.2.2.2.2.1)), (eA E 32, .inl (eZ E, 4096, .inl x.2.2.2.2.2.2.2.2.2.2.2.2.2.2.2.2.2.2.2.1)), (eA E 33, .inl (eI E, 120, .inl x.2.2.2.2.2.2.2.2.2.2.2.2.2.2.2.2.2.2.2.2.1)), (eA E 34, .inl (eI E, 300, .inl x.2.2.2.2.2.2.2.2.2.2.2.2.2.2.2.2.2.2.2.2.2.1)), (eA E 35, .inl (eI E, 5, .inl x.2.2.2.2.2.2.2.2.2.2.2.2.2.2.2.2.2.2.2.2.2.2))]
def wl (E : EN) (h : Hp) : va_W := wX E h.1 ++ (wR E h.2.1 ++ (wC E 8 h.2.2.1 ++ (wC E 13 h.2.2.2.1 ++ (wK E h.2.2.2.2.1 ++ (wS E h.2.2.2.2.2.1 ++ (wP E h.2.2.2.2.2.2.1 ++ (wM E h.2.2.2.2.2.2.2)))))))
def fA (E : EN) : Nat → Prop := fun q => ∃ k : Nat, k < 36 ∧ q = eA E k
theorem wl_ads (E : EN) (h : Hp) : (wl E h).map (fun q => q.1) = (List.range 36).map (eA E) := rfl
theorem wl_at {E : EN} {h : Hp} {i : Nat} {q : Nat × va_E} (hq : (wl E h)[i]? = some q) : i < 36 ∧ q.1 = eA E i := by
  have h1 : ((wl E h).map (fun q => q.1))[i]? = some q.1 := by rw [List.getElem?_map, hq]; rfl
  rw [wl_ads, List.getElem?_map] at h1
  cases hi : (List.range 36)[i]? with
  | none => rw [hi] at h1; cases h1
  | some j =>
    rw [hi] at h1
    have h2 := List.getElem?_eq_some_iff.mp hi
    obtain ⟨h3, h4⟩ := h2
    rw [List.getElem_range] at h4
    subst h4
    rw [List.length_range] at h3
    exact ⟨h3, (Option.some.inj h1).symm⟩
theorem wl_D {E : EN} (h : Hp) (hi : ∀ i j : Nat, i < 36 → j < 36 → eA E i = eA E j → i = j) : va_D (fA E) (wl E h) := by
  refine ⟨fun i j p q hp hq e => ?_, fun k q hq => ⟨k, (wl_at hq).1, (wl_at hq).2⟩⟩
  obtain ⟨h1, h2⟩ := wl_at hp
  obtain ⟨h3, h4⟩ := wl_at hq
  exact hi i j h1 h3 (by rw [← h2, ← h4, e])
/-- the tables' words that stay under warmer tables; the nest mates' -/
def TG : List Cond := lw_tbl.filter goodWord
def nestWord : Cond → Bool
  | .fieldLinkNest .. => true
  | .methodLinkNest .. => true
  | _ => false
def NW : List Cond := lw_tbl.filter nestWord
theorem NW_warm {s U : State} (hW : s.WarmedH U.vm) {w : Cond} (hn : nestWord w = true) (h : va_Nw w s) : va_Nw w U := by
  cases w <;> first | (exact va_Nw.warmF hW h) | (exact va_Nw.warmM hW h) | (simp [nestWord] at hn)
theorem NW_same {s U : State} (hv : s.vm = U.vm) {w : Cond} (hn : nestWord w = true) (h : va_Nw w s) : va_Nw w U := by
  cases w <;> first | (exact va_Nw.same rfl hv h) | (simp [nestWord] at hn)
theorem NW_tab {w : Cond} (hn : nestWord w = true) : w.onTables = true := by
  cases w <;> first | rfl | (simp [nestWord] at hn)
theorem TG_good {w : Cond} (h : w ∈ TG) : (w.onTables && w.keeps) = true ∨ ∃ ty, w = .arrayClass ty := good_of_word (List.mem_filter.mp h).2
/-- the String constants: their texts, in the order of Script.word -/
def sTx : List String := ["row", "near", "strata", "far", "chance", "unit", "turn", "place", "stratum", "size", "value", "walk", "many", ""]
def sLn : List Nat := sTx.map String.length
def sBy : List (List Int32) := [[114, 111, 119], [110, 101, 97, 114], [115, 116, 114, 97, 116, 97], [102, 97, 114], [99, 104, 97, 110, 99, 101], [117, 110, 105, 116], [116, 117, 114, 110], [112, 108, 97, 99, 101], [115, 116, 114, 97, 116, 117, 109], [115, 105, 122, 101], [118, 97, 108, 117, 101], [119, 97, 108, 107], [109, 97, 110, 121], []]
def mostF : Nat → Value := fun j => .int ((([12, 99, 3, 99, 99] : List Int32)).getD j 0)
/-- what stands unchanged all along: the classes, the statics, the constants, the nest mates' words -/
def St (E : EN) (U : State) (H : Heap) : Prop :=
  va_K (eD E) classes (tys E) U ∧ (∀ i j : Nat, i < 36 → j < 36 → eA E i = eA E j → i = j) ∧ (∀ w ∈ NW, va_Nw w U) ∧
  va_Z "DuelSamples$Roster" "MOST" "[I" (.ref (eM E)) (fA E) U H ∧ va_T .int (eM E) 5 mostF (fA E) U H ∧
  vk_S 14 sLn sBy (eK E) (eV E) (fA E) U H ∧ (∀ i : Nat, i < 14 → vk_R "DuelSamples$Script" (22 + 2 * i) (sTx.getD i "") (eK E i) U) ∧
  va_Z "java/lang/String" "COMPACT_STRINGS" "Z" (.int 1) (fA E) U H ∧ va_Zq "jdk/internal/util/Preconditions" "SIOOBE_FORMATTER" "Ljava/util/function/BiFunction;" (fA E) U H
theorem St.warm {E : EN} {s U : State} {H : Heap} (hW : s.WarmedH U.vm) (h : St E s H) : St E U H := by
  obtain ⟨h1, h2, h3, h4, h5, h6, h7, h8, h9⟩ := h
  exact ⟨va_K.moved hW.alike h1, h2, fun w hw => NW_warm hW (List.mem_filter.mp hw).2 (h3 w hw), h4.moved hW.alike, h5.moved hW.alike, h6.moved hW.alike, fun i hi => (h7 i hi).warm hW, h8.moved hW.alike, h9.moved hW.alike⟩
theorem St.same {E : EN} {s U : State} {H : Heap} (hv : s.vm = U.vm) (h : St E s H) : St E U H := by
  obtain ⟨h1, h2, h3, h4, h5, h6, h7, h8, h9⟩ := h
  have ha : s.vm.Alike U.vm := by rw [hv]; exact Vm.Alike.refl U.vm
  exact ⟨va_K.moved ha h1, h2, fun w hw => NW_same hv (List.mem_filter.mp hw).2 (h3 w hw), h4.moved ha, h5.moved ha, h6.moved ha, fun i hi => (h7 i hi).same hv.symm, h8.moved ha, h9.moved ha⟩
theorem St.kept {E : EN} {U : State} {H H1 : Heap} (h : St E U H) (hq : ∀ a : Nat, a < H.size → ¬ fA E a → H1[a]? = H[a]?) : St E U H1 := by
  obtain ⟨h1, h2, h3, h4, h5, h6, h7, h8, h9⟩ := h
  exact ⟨h1, h2, h3, h4.kept hq, h5.kept hq, h6.kept hq, h7, h8.kept hq, h9.kept hq⟩
/-! A METHOD'S CONTRACT over the abstract heap: Sem; a walk of its body: Wa -/
abbrev rmd (d : Nat) : Room := { frames := d, cells := 0, slots := 0, locals := 64 * d }
def Pr (E : EN) (av : List Value) (h : Hp) : Array Value → State → Prop := fun v U => v = av.toArray ∧ St E U U.heap ∧ va_P (eD E) classes (wl E h) U.heap
def Qr (E : EN) (res : Option Value × Hp) : Array Value → State → Outcome → State → Prop := fun _ st o t => o = .returned res.1 ∧ va_P (eD E) classes (wl E res.2) t.heap ∧ va_F (fA E) st t
abbrev wsM (y : MethodName) (cc : ByteArray) (nL : Nat) (ret : Option FieldType) : List Cond := .code y cc nL ret :: TG
def Sem (E : EN) (y : MethodName) (cc : ByteArray) (nL : Nat) (ret : Option FieldType) (d : Nat) (av : List Value) (h : Hp) (res : Option Value × Hp) : Prop :=
  Met (eL E) y (wsM y cc nL ret) (rmd d) (Pr E av h) (Qr E res) 0 0 (fA E)
theorem Pr_blind (E : EN) (av : List Value) (h : Hp) : FrameBlind (Pr E av h) := fun a U g mk q => ⟨q.1, (St.same (s := U) (U := U.calling g mk a) (H := U.heap) rfl q.2.1 : St E (U.calling g mk a) U.heap), q.2.2⟩
def Wx (E : EN) (y : MethodName) (cc : ByteArray) (nL : Nat) (ret : Option FieldType) (p : Program) (s : State) (m : MethodId) (args : Array Value) (meth : Method) (c : Code) (H : Heap) (locs : List Loc) (ls : Array Slot) (lv : List (Nat × Value)) (h : Hp) : Prop :=
  (p.tables.exec = Jvm.exec ∧ c.code = cc ∧ meth.sig.returnType = ret ∧ c.maxLocals = nL ∧ s.vm.findClass y.cls = some m.cls ∧ (∀ w ∈ TG, w.before args s = true) ∧ meth.locks = false) ∧ St E s s.heap ∧ va_P (eD E) classes (wl E h) H ∧ va_S (fA E) s.heap H locs ∧ lv_has ls nL lv
def Wa (E : EN) (y : MethodName) (cc : ByteArray) (nL : Nat) (ret : Option FieldType) (d : Nat) (res : Option Value × Hp) (pc : Nat) (lv : List (Nat × Value)) (st : List Value) (h : Hp) : Prop :=
  ∀ (p : Program) (e : Env) (s : State) (m : MethodId) (args : Array Value) (below : List Frame) (meth : Method) (c : Code) (H : Heap) (locs : List Loc) (ls : Array Slot),
    Wx E y cc nL ret p s m args meth c H locs ls lv h → W p (eL E) e (rmd d) s m args below meth c H locs 0 0 (MQ below (Qr E res) args s 0 0 (fA E)) (F0 m pc ls st)
theorem Sem.mk {E : EN} {y : MethodName} {cc : ByteArray} {nL : Nat} {ret : Option FieldType} {d : Nat} {av : List Value} {h : Hp} {res : Option Value × Hp} {lv : List (Nat × Value)} (hy : plainName y.cls = true) (hn : (lg_sl av).length ≤ nL) (hlv : lv_args 0 av = lv)
    (k : Wa E y cc nL ret d res 0 lv [] h) : Sem E y cc nL ret d av h res := by
  refine Met.ofW (cc := cc) (maxL := nL) (ret := ret) hy rfl ?_
  intro p e s m args below meth c s₁ B hml hv
  obtain ⟨rfl, hSt, hP⟩ := hv
  have hts := atoms_spec (ws := wsM y cc nL ret) B.pre
  have hl := lv_entry av (n := nL) hn
  rw [hlv] at hl
  rw [lg_entry_eq]
  exact k p e s m _ below meth c s.heap [] _ ⟨⟨B.exec, B.bytes, B.returns, hml, findClass_of_methodNamed B.named, fun w hw => hts w (List.mem_cons_of_mem _ hw), B.notSynchronized⟩, hSt, hP, va_S.rf, hl⟩
theorem Wa.sub {E : EN} {y : MethodName} {cc : ByteArray} {nL : Nat} {ret : Option FieldType} {d : Nat} {res : Option Value × Hp} {pc : Nat} {lv lv' : List (Nat × Value)} {st : List Value} {h : Hp} (ks : List Nat) (hk : lv_pick lv ks = lv') (k : Wa E y cc nL ret d res pc lv' st h) : Wa E y cc nL ret d res pc lv st h :=
  fun p e s m args below meth c H locs ls X => k p e s m args below meth c H locs ls ⟨X.1, X.2.1, X.2.2.1, X.2.2.2.1, lv_sub X.2.2.2.2 ks hk⟩
/-! facts of the functions, taken apart -/
theorem hf_pos {α : Type} {c : Prop} [Decidable c] {A B x : α} (hc : c) (h : (if c then A else B) = x) : A = x := (if_pos hc).symm.trans h
theorem hf_neg {α : Type} {c : Prop} [Decidable c] {A B x : α} (hc : ¬ c) (h : (if c then A else B) = x) : B = x := (if_neg hc).symm.trans h
theorem hf_bind {α β : Type} {o : Option α} {g : α → Option β} {b : β} (h : o.bind g = some b) : ∃ a, o = some a ∧ g a = some b := Option.bind_eq_some_iff.mp h
/-- an index in its row -/
def inB (i : Int32) (n : Nat) : Bool := decide (¬ (i < 0 ∨ n ≤ i.toNatClampNeg))
theorem inB_in {i : Int32} {n : Nat} (h : inB i n = true) : vp_in i n := (of_decide_eq_true h : ¬ (i < 0 ∨ n ≤ i.toNatClampNeg))
theorem hf_in {α : Type} {i : Int32} {n : Nat} {A : Option α} {x : α} (h : (if inB i n then A else none) = some x) : vp_in i n ∧ A = some x := by
  by_cases hc : inB i n = true
  · rw [if_pos hc] at h
    exact ⟨inB_in hc, h⟩
  · rw [if_neg hc] at h
    cases h
theorem hf_nz {α β : Type} [DecidableEq β] {y z : β} {A : Option α} {x : α} (h : (if y = z then none else A) = some x) : ¬ y = z ∧ A = some x := by
  by_cases hc : y = z
  · rw [if_pos hc] at h
    cases h
  · rw [if_neg hc] at h
    exact ⟨hc, h⟩

section
variable {E : EN} {y : MethodName} {cc : ByteArray} {nL : Nat} {ret : Option FieldType} {d : Nat} {res : Option Value × Hp} {pc : Nat} {lv lv2 : List (Nat × Value)} {st : List Value} {h : Hp}
theorem r_iconst {n : Int} {v : Int32} (hdg : decode cc pc = .ok (.iconst n, 1)) (hv : Int32.ofInt n = v) (k : Wa E y cc nL ret d res (pc + 1) lv (.int v :: st) h) : Wa E y cc nL ret d res pc lv (st) h := by
  intro p e s m args below meth c H locs ls X
  obtain ⟨⟨hx, hb, hr, hml, hown, hts, hlk⟩, hSt, hP, hS, hl⟩ := id X
  exact lv_iconst hx hb hdg hv (k p e s m args below meth c H locs ls X)
theorem r_bipush {n : Int} {v : Int32} (hdg : decode cc pc = .ok (.bipush n, 2)) (hv : (Int8.ofInt n).toInt32 = v) (k : Wa E y cc nL ret d res (pc + 2) lv (.int v :: st) h) : Wa E y cc nL ret d res pc lv (st) h := by
  intro p e s m args below meth c H locs ls X
  obtain ⟨⟨hx, hb, hr, hml, hown, hts, hlk⟩, hSt, hP, hS, hl⟩ := id X
  exact lv_bipush hx hb hdg hv (k p e s m args below meth c H locs ls X)
theorem r_sipush {n : Int} {v : Int32} (hdg : decode cc pc = .ok (.sipush n, 3)) (hv : (Int16.ofInt n).toInt32 = v) (k : Wa E y cc nL ret d res (pc + 3) lv (.int v :: st) h) : Wa E y cc nL ret d res pc lv (st) h := by
  intro p e s m args below meth c H locs ls X
  obtain ⟨⟨hx, hb, hr, hml, hown, hts, hlk⟩, hSt, hP, hS, hl⟩ := id X
  exact lv_sipush hx hb hdg hv (k p e s m args below meth c H locs ls X)
theorem r_lconst {n : Fin 2} {v : Int64} (hdg : decode cc pc = .ok (.lconst n, 1)) (hv : Int64.ofNat (n : Nat) = v) (k : Wa E y cc nL ret d res (pc + 1) lv (.long v :: st) h) : Wa E y cc nL ret d res pc lv (st) h := by
  intro p e s m args below meth c H locs ls X
  obtain ⟨⟨hx, hb, hr, hml, hown, hts, hlk⟩, hSt, hP, hS, hl⟩ := id X
  exact lv_lconst hx hb hdg hv (k p e s m args below meth c H locs ls X)
theorem r_iload_n {k9 : Fin 4} {x : Int32} (hdg : decode cc pc = .ok (.iload_n k9, 1)) (j : Nat) (hv : lv[j]? = some ((k9 : Nat), .int x)) (k : Wa E y cc nL ret d res (pc + 1) lv (.int x :: st) h) : Wa E y cc nL ret d res pc lv (st) h := by
  intro p e s m args below meth c H locs ls X
  obtain ⟨⟨hx, hb, hr, hml, hown, hts, hlk⟩, hSt, hP, hS, hl⟩ := id X
  exact lv_iload_n hx hb hdg rfl (lv_at hl j hv) (k p e s m args below meth c H locs ls X)
theorem r_iload {i9 : Nat} {x : Int32} (hdg : decode cc pc = .ok (.iload i9, 2)) (j : Nat) (hv : lv[j]? = some (i9, .int x)) (k : Wa E y cc nL ret d res (pc + 2) lv (.int x :: st) h) : Wa E y cc nL ret d res pc lv (st) h := by
  intro p e s m args below meth c H locs ls X
  obtain ⟨⟨hx, hb, hr, hml, hown, hts, hlk⟩, hSt, hP, hS, hl⟩ := id X
  exact lv_iload hx hb hdg (lv_at hl j hv) (k p e s m args below meth c H locs ls X)
theorem r_istore_n {k9 : Fin 4} {i9 : Nat} {x : Int32} (hdg : decode cc pc = .ok (.istore_n k9, 1)) (hi : (k9 : Nat) = i9) (hn : i9 < nL) (hv : (i9, Value.int x) :: lv.filter (fun q => !(q.1 == i9) && !(q.1 + 1 == i9 && q.2.category == 2)) = lv2) (k : Wa E y cc nL ret d res (pc + 1) lv2 st h) : Wa E y cc nL ret d res pc lv (.int x :: st) h := by
  intro p e s m args below meth c H locs ls X
  obtain ⟨⟨hx, hb, hr, hml, hown, hts, hlk⟩, hSt, hP, hS, hl⟩ := id X
  exact lv_istore_n hx hb hdg hi hl hn hv (fun ls hl => k p e s m args below meth c H locs ls ⟨X.1, hSt, hP, hS, hl⟩)
theorem r_istore {i9 : Nat} {x : Int32} (hdg : decode cc pc = .ok (.istore i9, 2)) (hn : i9 < nL) (hv : (i9, Value.int x) :: lv.filter (fun q => !(q.1 == i9) && !(q.1 + 1 == i9 && q.2.category == 2)) = lv2) (k : Wa E y cc nL ret d res (pc + 2) lv2 st h) : Wa E y cc nL ret d res pc lv (.int x :: st) h := by
  intro p e s m args below meth c H locs ls X
  obtain ⟨⟨hx, hb, hr, hml, hown, hts, hlk⟩, hSt, hP, hS, hl⟩ := id X
  exact lv_istore hx hb hdg hl hn hv (fun ls hl => k p e s m args below meth c H locs ls ⟨X.1, hSt, hP, hS, hl⟩)
theorem r_lload_n {k9 : Fin 4} {x : Int64} (hdg : decode cc pc = .ok (.lload_n k9, 1)) (j : Nat) (hv : lv[j]? = some ((k9 : Nat), .long x)) (k : Wa E y cc nL ret d res (pc + 1) lv (.long x :: st) h) : Wa E y cc nL ret d res pc lv (st) h := by
  intro p e s m args below meth c H locs ls X
  obtain ⟨⟨hx, hb, hr, hml, hown, hts, hlk⟩, hSt, hP, hS, hl⟩ := id X
  exact lv_lload_n hx hb hdg rfl (lv_at hl j hv) (k p e s m args below meth c H locs ls X)
theorem r_lload {i9 : Nat} {x : Int64} (hdg : decode cc pc = .ok (.lload i9, 2)) (j : Nat) (hv : lv[j]? = some (i9, .long x)) (k : Wa E y cc nL ret d res (pc + 2) lv (.long x :: st) h) : Wa E y cc nL ret d res pc lv (st) h := by
  intro p e s m args below meth c H locs ls X
  obtain ⟨⟨hx, hb, hr, hml, hown, hts, hlk⟩, hSt, hP, hS, hl⟩ := id X
  exact lv_lload hx hb hdg (lv_at hl j hv) (k p e s m args below meth c H locs ls X)
theorem r_lstore_n {k9 : Fin 4} {i9 : Nat} {x : Int64} (hdg : decode cc pc = .ok (.lstore_n k9, 1)) (hi : (k9 : Nat) = i9) (hn : i9 + 1 < nL) (hv : (i9, Value.long x) :: lv.filter (fun q => !(q.1 == i9) && (!(q.1 == i9 + 1) && !(q.1 + 1 == i9 && q.2.category == 2))) = lv2) (k : Wa E y cc nL ret d res (pc + 1) lv2 st h) : Wa E y cc nL ret d res pc lv (.long x :: st) h := by
  intro p e s m args below meth c H locs ls X
  obtain ⟨⟨hx, hb, hr, hml, hown, hts, hlk⟩, hSt, hP, hS, hl⟩ := id X
  exact lv_lstore_n hx hb hdg hi hl hn hv (fun ls hl => k p e s m args below meth c H locs ls ⟨X.1, hSt, hP, hS, hl⟩)
theorem r_lstore {i9 : Nat} {x : Int64} (hdg : decode cc pc = .ok (.lstore i9, 2)) (hn : i9 + 1 < nL) (hv : (i9, Value.long x) :: lv.filter (fun q => !(q.1 == i9) && (!(q.1 == i9 + 1) && !(q.1 + 1 == i9 && q.2.category == 2))) = lv2) (k : Wa E y cc nL ret d res (pc + 2) lv2 st h) : Wa E y cc nL ret d res pc lv (.long x :: st) h := by
  intro p e s m args below meth c H locs ls X
  obtain ⟨⟨hx, hb, hr, hml, hown, hts, hlk⟩, hSt, hP, hS, hl⟩ := id X
  exact lv_lstore hx hb hdg hl hn hv (fun ls hl => k p e s m args below meth c H locs ls ⟨X.1, hSt, hP, hS, hl⟩)
theorem r_aload_n {k9 : Fin 4} {x : Nat} (hdg : decode cc pc = .ok (.aload_n k9, 1)) (j : Nat) (hv : lv[j]? = some ((k9 : Nat), .ref x)) (k : Wa E y cc nL ret d res (pc + 1) lv (.ref x :: st) h) : Wa E y cc nL ret d res pc lv (st) h := by
  intro p e s m args below meth c H locs ls X
  obtain ⟨⟨hx, hb, hr, hml, hown, hts, hlk⟩, hSt, hP, hS, hl⟩ := id X
  exact lv_aload_n hx hb hdg rfl (lv_at hl j hv) (k p e s m args below meth c H locs ls X)
theorem r_aload {i9 : Nat} {x : Nat} (hdg : decode cc pc = .ok (.aload i9, 2)) (j : Nat) (hv : lv[j]? = some (i9, .ref x)) (k : Wa E y cc nL ret d res (pc + 2) lv (.ref x :: st) h) : Wa E y cc nL ret d res pc lv (st) h := by
  intro p e s m args below meth c H locs ls X
  obtain ⟨⟨hx, hb, hr, hml, hown, hts, hlk⟩, hSt, hP, hS, hl⟩ := id X
  exact lv_aload hx hb hdg (lv_at hl j hv) (k p e s m args below meth c H locs ls X)
theorem r_astore_n {k9 : Fin 4} {i9 : Nat} {x : Nat} (hdg : decode cc pc = .ok (.astore_n k9, 1)) (hi : (k9 : Nat) = i9) (hn : i9 < nL) (hv : (i9, Value.ref x) :: lv.filter (fun q => !(q.1 == i9) && !(q.1 + 1 == i9 && q.2.category == 2)) = lv2) (k : Wa E y cc nL ret d res (pc + 1) lv2 st h) : Wa E y cc nL ret d res pc lv (.ref x :: st) h := by
  intro p e s m args below meth c H locs ls X
  obtain ⟨⟨hx, hb, hr, hml, hown, hts, hlk⟩, hSt, hP, hS, hl⟩ := id X
  exact lv_astore_n hx hb hdg hi hl hn hv (fun ls hl => k p e s m args below meth c H locs ls ⟨X.1, hSt, hP, hS, hl⟩)
theorem r_astore {i9 : Nat} {x : Nat} (hdg : decode cc pc = .ok (.astore i9, 2)) (hn : i9 < nL) (hv : (i9, Value.ref x) :: lv.filter (fun q => !(q.1 == i9) && !(q.1 + 1 == i9 && q.2.category == 2)) = lv2) (k : Wa E y cc nL ret d res (pc + 2) lv2 st h) : Wa E y cc nL ret d res pc lv (.ref x :: st) h := by
  intro p e s m args below meth c H locs ls X
  obtain ⟨⟨hx, hb, hr, hml, hown, hts, hlk⟩, hSt, hP, hS, hl⟩ := id X
  exact lv_astore hx hb hdg hl hn hv (fun ls hl => k p e s m args below meth c H locs ls ⟨X.1, hSt, hP, hS, hl⟩)
theorem r_iinc {i9 : Nat} {n : Int} {x v : Int32} (hdg : decode cc pc = .ok (.iinc i9 n, 3)) (j : Nat) (hk : lv[j]? = some (i9, .int x)) (hw : x + Int32.ofInt n = v) (hn : i9 < nL) (hv : (i9, Value.int v) :: lv.filter (fun q => !(q.1 == i9) && !(q.1 + 1 == i9 && q.2.category == 2)) = lv2) (k : Wa E y cc nL ret d res (pc + 3) lv2 st h) : Wa E y cc nL ret d res pc lv st h := by
  intro p e s m args below meth c H locs ls X
  obtain ⟨⟨hx, hb, hr, hml, hown, hts, hlk⟩, hSt, hP, hS, hl⟩ := id X
  exact lv_iinc hx hb hdg hl hk hw hn hv (fun ls hl => k p e s m args below meth c H locs ls ⟨X.1, hSt, hP, hS, hl⟩)
theorem r_iadd {a b : Int32} (hdg : decode cc pc = .ok (.iadd, 1))  (k : Wa E y cc nL ret d res (pc + 1) lv (.int (a + b) :: st) h) : Wa E y cc nL ret d res pc lv (.int b :: .int a :: st) h := by
  intro p e s m args below meth c H locs ls X
  obtain ⟨⟨hx, hb, hr, hml, hown, hts, hlk⟩, hSt, hP, hS, hl⟩ := id X
  exact lv_iadd hx hb hdg (k p e s m args below meth c H locs ls X)
theorem r_isub {a b : Int32} (hdg : decode cc pc = .ok (.isub, 1))  (k : Wa E y cc nL ret d res (pc + 1) lv (.int (a - b) :: st) h) : Wa E y cc nL ret d res pc lv (.int b :: .int a :: st) h := by
  intro p e s m args below meth c H locs ls X
  obtain ⟨⟨hx, hb, hr, hml, hown, hts, hlk⟩, hSt, hP, hS, hl⟩ := id X
  exact lv_isub hx hb hdg (k p e s m args below meth c H locs ls X)
theorem r_imul {a b : Int32} (hdg : decode cc pc = .ok (.imul, 1))  (k : Wa E y cc nL ret d res (pc + 1) lv (.int (a * b) :: st) h) : Wa E y cc nL ret d res pc lv (.int b :: .int a :: st) h := by
  intro p e s m args below meth c H locs ls X
  obtain ⟨⟨hx, hb, hr, hml, hown, hts, hlk⟩, hSt, hP, hS, hl⟩ := id X
  exact lv_imul hx hb hdg (k p e s m args below meth c H locs ls X)
theorem r_iand {a b : Int32} (hdg : decode cc pc = .ok (.iand, 1))  (k : Wa E y cc nL ret d res (pc + 1) lv (.int (a &&& b) :: st) h) : Wa E y cc nL ret d res pc lv (.int b :: .int a :: st) h := by
  intro p e s m args below meth c H locs ls X
  obtain ⟨⟨hx, hb, hr, hml, hown, hts, hlk⟩, hSt, hP, hS, hl⟩ := id X
  exact lv_iand hx hb hdg (k p e s m args below meth c H locs ls X)
theorem r_ior {a b : Int32} (hdg : decode cc pc = .ok (.ior, 1))  (k : Wa E y cc nL ret d res (pc + 1) lv (.int (a ||| b) :: st) h) : Wa E y cc nL ret d res pc lv (.int b :: .int a :: st) h := by
  intro p e s m args below meth c H locs ls X
  obtain ⟨⟨hx, hb, hr, hml, hown, hts, hlk⟩, hSt, hP, hS, hl⟩ := id X
  exact lv_ior hx hb hdg (k p e s m args below meth c H locs ls X)
theorem r_ixor {a b : Int32} (hdg : decode cc pc = .ok (.ixor, 1))  (k : Wa E y cc nL ret d res (pc + 1) lv (.int (a ^^^ b) :: st) h) : Wa E y cc nL ret d res pc lv (.int b :: .int a :: st) h := by
  intro p e s m args below meth c H locs ls X
  obtain ⟨⟨hx, hb, hr, hml, hown, hts, hlk⟩, hSt, hP, hS, hl⟩ := id X
  exact lv_ixor hx hb hdg (k p e s m args below meth c H locs ls X)
theorem r_ishl {a b : Int32} (hdg : decode cc pc = .ok (.ishl, 1))  (k : Wa E y cc nL ret d res (pc + 1) lv (.int (a <<< (b &&& 31)) :: st) h) : Wa E y cc nL ret d res pc lv (.int b :: .int a :: st) h := by
  intro p e s m args below meth c H locs ls X
  obtain ⟨⟨hx, hb, hr, hml, hown, hts, hlk⟩, hSt, hP, hS, hl⟩ := id X
  exact lv_ishl hx hb hdg (k p e s m args below meth c H locs ls X)
theorem r_ishr {a b : Int32} (hdg : decode cc pc = .ok (.ishr, 1))  (k : Wa E y cc nL ret d res (pc + 1) lv (.int (a >>> (b &&& 31)) :: st) h) : Wa E y cc nL ret d res pc lv (.int b :: .int a :: st) h := by
  intro p e s m args below meth c H locs ls X
  obtain ⟨⟨hx, hb, hr, hml, hown, hts, hlk⟩, hSt, hP, hS, hl⟩ := id X
  exact lv_ishr hx hb hdg (k p e s m args below meth c H locs ls X)
theorem r_ladd {a b : Int64} (hdg : decode cc pc = .ok (.ladd, 1))  (k : Wa E y cc nL ret d res (pc + 1) lv (.long (a + b) :: st) h) : Wa E y cc nL ret d res pc lv (.long b :: .long a :: st) h := by
  intro p e s m args below meth c H locs ls X
  obtain ⟨⟨hx, hb, hr, hml, hown, hts, hlk⟩, hSt, hP, hS, hl⟩ := id X
  exact lv_ladd hx hb hdg (k p e s m args below meth c H locs ls X)
theorem r_lsub {a b : Int64} (hdg : decode cc pc = .ok (.lsub, 1))  (k : Wa E y cc nL ret d res (pc + 1) lv (.long (a - b) :: st) h) : Wa E y cc nL ret d res pc lv (.long b :: .long a :: st) h := by
  intro p e s m args below meth c H locs ls X
  obtain ⟨⟨hx, hb, hr, hml, hown, hts, hlk⟩, hSt, hP, hS, hl⟩ := id X
  exact lv_lsub hx hb hdg (k p e s m args below meth c H locs ls X)
theorem r_lmul {a b : Int64} (hdg : decode cc pc = .ok (.lmul, 1))  (k : Wa E y cc nL ret d res (pc + 1) lv (.long (a * b) :: st) h) : Wa E y cc nL ret d res pc lv (.long b :: .long a :: st) h := by
  intro p e s m args below meth c H locs ls X
  obtain ⟨⟨hx, hb, hr, hml, hown, hts, hlk⟩, hSt, hP, hS, hl⟩ := id X
  exact lv_lmul hx hb hdg (k p e s m args below meth c H locs ls X)
theorem r_land {a b : Int64} (hdg : decode cc pc = .ok (.land, 1))  (k : Wa E y cc nL ret d res (pc + 1) lv (.long (a &&& b) :: st) h) : Wa E y cc nL ret d res pc lv (.long b :: .long a :: st) h := by
  intro p e s m args below meth c H locs ls X
  obtain ⟨⟨hx, hb, hr, hml, hown, hts, hlk⟩, hSt, hP, hS, hl⟩ := id X
  exact lv_land hx hb hdg (k p e s m args below meth c H locs ls X)
theorem r_lor {a b : Int64} (hdg : decode cc pc = .ok (.lor, 1))  (k : Wa E y cc nL ret d res (pc + 1) lv (.long (a ||| b) :: st) h) : Wa E y cc nL ret d res pc lv (.long b :: .long a :: st) h := by
  intro p e s m args below meth c H locs ls X
  obtain ⟨⟨hx, hb, hr, hml, hown, hts, hlk⟩, hSt, hP, hS, hl⟩ := id X
  exact lv_lor hx hb hdg (k p e s m args below meth c H locs ls X)
theorem r_lxor {a b : Int64} (hdg : decode cc pc = .ok (.lxor, 1))  (k : Wa E y cc nL ret d res (pc + 1) lv (.long (a ^^^ b) :: st) h) : Wa E y cc nL ret d res pc lv (.long b :: .long a :: st) h := by
  intro p e s m args below meth c H locs ls X
  obtain ⟨⟨hx, hb, hr, hml, hown, hts, hlk⟩, hSt, hP, hS, hl⟩ := id X
  exact lv_lxor hx hb hdg (k p e s m args below meth c H locs ls X)
theorem r_idiv {a b : Int32} (hdg : decode cc pc = .ok (.idiv, 1)) (hne : ¬ b = 0) (k : Wa E y cc nL ret d res (pc + 1) lv (.int (a / b) :: st) h) : Wa E y cc nL ret d res pc lv (.int b :: .int a :: st) h := by
  intro p e s m args below meth c H locs ls X
  obtain ⟨⟨hx, hb, hr, hml, hown, hts, hlk⟩, hSt, hP, hS, hl⟩ := id X
  exact lv_idiv hx hb hdg hne (k p e s m args below meth c H locs ls X)
theorem r_irem {a b : Int32} (hdg : decode cc pc = .ok (.irem, 1)) (hne : ¬ b = 0) (k : Wa E y cc nL ret d res (pc + 1) lv (.int (a - a / b * b) :: st) h) : Wa E y cc nL ret d res pc lv (.int b :: .int a :: st) h := by
  intro p e s m args below meth c H locs ls X
  obtain ⟨⟨hx, hb, hr, hml, hown, hts, hlk⟩, hSt, hP, hS, hl⟩ := id X
  exact lv_irem hx hb hdg hne (k p e s m args below meth c H locs ls X)
theorem r_ldiv {a b : Int64} (hdg : decode cc pc = .ok (.ldiv, 1)) (hne : ¬ b = 0) (k : Wa E y cc nL ret d res (pc + 1) lv (.long (a / b) :: st) h) : Wa E y cc nL ret d res pc lv (.long b :: .long a :: st) h := by
  intro p e s m args below meth c H locs ls X
  obtain ⟨⟨hx, hb, hr, hml, hown, hts, hlk⟩, hSt, hP, hS, hl⟩ := id X
  exact lv_ldiv hx hb hdg hne (k p e s m args below meth c H locs ls X)
theorem r_lrem {a b : Int64} (hdg : decode cc pc = .ok (.lrem, 1)) (hne : ¬ b = 0) (k : Wa E y cc nL ret d res (pc + 1) lv (.long (a - a / b * b) :: st) h) : Wa E y cc nL ret d res pc lv (.long b :: .long a :: st) h := by
  intro p e s m args below meth c H locs ls X
  obtain ⟨⟨hx, hb, hr, hml, hown, hts, hlk⟩, hSt, hP, hS, hl⟩ := id X
  exact lv_lrem hx hb hdg hne (k p e s m args below meth c H locs ls X)
theorem r_ineg {a : Int32} (hdg : decode cc pc = .ok (.ineg, 1))  (k : Wa E y cc nL ret d res (pc + 1) lv (.int (-a) :: st) h) : Wa E y cc nL ret d res pc lv (.int a :: st) h := by
  intro p e s m args below meth c H locs ls X
  obtain ⟨⟨hx, hb, hr, hml, hown, hts, hlk⟩, hSt, hP, hS, hl⟩ := id X
  exact lv_ineg hx hb hdg (k p e s m args below meth c H locs ls X)
theorem r_lneg {a : Int64} (hdg : decode cc pc = .ok (.lneg, 1))  (k : Wa E y cc nL ret d res (pc + 1) lv (.long (-a) :: st) h) : Wa E y cc nL ret d res pc lv (.long a :: st) h := by
  intro p e s m args below meth c H locs ls X
  obtain ⟨⟨hx, hb, hr, hml, hown, hts, hlk⟩, hSt, hP, hS, hl⟩ := id X
  exact lv_lneg hx hb hdg (k p e s m args below meth c H locs ls X)
theorem r_i2l {a : Int32} (hdg : decode cc pc = .ok (.i2l, 1))  (k : Wa E y cc nL ret d res (pc + 1) lv (.long a.toInt64 :: st) h) : Wa E y cc nL ret d res pc lv (.int a :: st) h := by
  intro p e s m args below meth c H locs ls X
  obtain ⟨⟨hx, hb, hr, hml, hown, hts, hlk⟩, hSt, hP, hS, hl⟩ := id X
  exact lv_i2l hx hb hdg rfl (k p e s m args below meth c H locs ls X)
theorem r_l2i {a : Int64} (hdg : decode cc pc = .ok (.l2i, 1))  (k : Wa E y cc nL ret d res (pc + 1) lv (.int a.toInt32 :: st) h) : Wa E y cc nL ret d res pc lv (.long a :: st) h := by
  intro p e s m args below meth c H locs ls X
  obtain ⟨⟨hx, hb, hr, hml, hown, hts, hlk⟩, hSt, hP, hS, hl⟩ := id X
  exact lv_l2i hx hb hdg rfl (k p e s m args below meth c H locs ls X)
theorem r_i2b {a : Int32} (hdg : decode cc pc = .ok (.i2b, 1))  (k : Wa E y cc nL ret d res (pc + 1) lv (.int a.toInt8.toInt32 :: st) h) : Wa E y cc nL ret d res pc lv (.int a :: st) h := by
  intro p e s m args below meth c H locs ls X
  obtain ⟨⟨hx, hb, hr, hml, hown, hts, hlk⟩, hSt, hP, hS, hl⟩ := id X
  exact lv_i2b hx hb hdg rfl (k p e s m args below meth c H locs ls X)
theorem r_i2c {a : Int32} (hdg : decode cc pc = .ok (.i2c, 1))  (k : Wa E y cc nL ret d res (pc + 1) lv (.int (a.toUInt32 % 65536).toInt32 :: st) h) : Wa E y cc nL ret d res pc lv (.int a :: st) h := by
  intro p e s m args below meth c H locs ls X
  obtain ⟨⟨hx, hb, hr, hml, hown, hts, hlk⟩, hSt, hP, hS, hl⟩ := id X
  exact lv_i2c hx hb hdg rfl (k p e s m args below meth c H locs ls X)
theorem r_iushr {a b : Int32} (hdg : decode cc pc = .ok (.iushr, 1))  (k : Wa E y cc nL ret d res (pc + 1) lv (.int (a.toUInt32 >>> (b.toUInt32 &&& Int32.toUInt32 31)).toInt32 :: st) h) : Wa E y cc nL ret d res pc lv (.int b :: .int a :: st) h := by
  intro p e s m args below meth c H locs ls X
  obtain ⟨⟨hx, hb, hr, hml, hown, hts, hlk⟩, hSt, hP, hS, hl⟩ := id X
  exact lv_iushr hx hb hdg rfl (k p e s m args below meth c H locs ls X)
theorem r_lushr {a : Int64} {b : Int32} (hdg : decode cc pc = .ok (.lushr, 1))  (k : Wa E y cc nL ret d res (pc + 1) lv (.long (a.toUInt64 >>> (b.toInt64.toUInt64 &&& Int64.toUInt64 63)).toInt64 :: st) h) : Wa E y cc nL ret d res pc lv (.int b :: .long a :: st) h := by
  intro p e s m args below meth c H locs ls X
  obtain ⟨⟨hx, hb, hr, hml, hown, hts, hlk⟩, hSt, hP, hS, hl⟩ := id X
  exact lv_lushr hx hb hdg rfl (k p e s m args below meth c H locs ls X)
theorem r_lshl {a : Int64} {b : Int32} (hdg : decode cc pc = .ok (.lshl, 1))  (k : Wa E y cc nL ret d res (pc + 1) lv (.long (a <<< (b.toInt64 &&& 63)) :: st) h) : Wa E y cc nL ret d res pc lv (.int b :: .long a :: st) h := by
  intro p e s m args below meth c H locs ls X
  obtain ⟨⟨hx, hb, hr, hml, hown, hts, hlk⟩, hSt, hP, hS, hl⟩ := id X
  exact lv_lshl hx hb hdg rfl (k p e s m args below meth c H locs ls X)
theorem r_lshr {a : Int64} {b : Int32} (hdg : decode cc pc = .ok (.lshr, 1))  (k : Wa E y cc nL ret d res (pc + 1) lv (.long (a >>> (b.toInt64 &&& 63)) :: st) h) : Wa E y cc nL ret d res pc lv (.int b :: .long a :: st) h := by
  intro p e s m args below meth c H locs ls X
  obtain ⟨⟨hx, hb, hr, hml, hown, hts, hlk⟩, hSt, hP, hS, hl⟩ := id X
  exact lv_lshr hx hb hdg rfl (k p e s m args below meth c H locs ls X)
theorem r_lcmp {a b : Int64} (hdg : decode cc pc = .ok (.lcmp, 1)) (k : Wa E y cc nL ret d res (pc + 1) lv (.int (lg_cmp a b) :: st) h) : Wa E y cc nL ret d res pc lv (.long b :: .long a :: st) h := by
  intro p e s m args below meth c H locs ls X
  obtain ⟨⟨hx, hb, hr, hml, hown, hts, hlk⟩, hSt, hP, hS, hl⟩ := id X
  exact W.lcmp hx hb hdg (k p e s m args below meth c H locs ls X)
theorem r_dup {v : Value} (hdg : decode cc pc = .ok (.dup, 1)) (hv : v.category = 1) (k : Wa E y cc nL ret d res (pc + 1) lv (v :: v :: st) h) : Wa E y cc nL ret d res pc lv (v :: st) h := by
  intro p e s m args below meth c H locs ls X
  obtain ⟨⟨hx, hb, hr, hml, hown, hts, hlk⟩, hSt, hP, hS, hl⟩ := id X
  exact lv_dup hx hb hdg hv (k p e s m args below meth c H locs ls X)
theorem r_pop {v : Value} (hdg : decode cc pc = .ok (.pop, 1)) (hv : v.category = 1) (k : Wa E y cc nL ret d res (pc + 1) lv (st) h) : Wa E y cc nL ret d res pc lv (v :: st) h := by
  intro p e s m args below meth c H locs ls X
  obtain ⟨⟨hx, hb, hr, hml, hown, hts, hlk⟩, hSt, hP, hS, hl⟩ := id X
  exact lv_pop hx hb hdg hv (k p e s m args below meth c H locs ls X)
theorem r_dup2 {v u : Value} (hdg : decode cc pc = .ok (.dup2, 1)) (hv : v.category = 1) (hu : u.category = 1) (k : Wa E y cc nL ret d res (pc + 1) lv (v :: u :: v :: u :: st) h) : Wa E y cc nL ret d res pc lv (v :: u :: st) h := by
  intro p e s m args below meth c H locs ls X
  obtain ⟨⟨hx, hb, hr, hml, hown, hts, hlk⟩, hSt, hP, hS, hl⟩ := id X
  exact lv_dup2_11 hx hb hdg hv hu (k p e s m args below meth c H locs ls X)
theorem r_dup_x1 {v u : Value} (hdg : decode cc pc = .ok (.dup_x1, 1)) (hv : v.category = 1) (hu : u.category = 1) (k : Wa E y cc nL ret d res (pc + 1) lv (v :: u :: v :: st) h) : Wa E y cc nL ret d res pc lv (v :: u :: st) h := by
  intro p e s m args below meth c H locs ls X
  obtain ⟨⟨hx, hb, hr, hml, hown, hts, hlk⟩, hSt, hP, hS, hl⟩ := id X
  exact lv_dup_x1 hx hb hdg hv hu (k p e s m args below meth c H locs ls X)
theorem r_if_eq {a : Int32} {off : Int} {tgt : Nat} (hdg : decode cc pc = .ok (.ifCond .eq off, 3)) (ht : (pc : Int) + off = (tgt : Int)) (kt : a = 0 → Wa E y cc nL ret d res tgt lv st h) (kf : ¬ (a = 0) → Wa E y cc nL ret d res (pc + 3) lv st h) : Wa E y cc nL ret d res pc lv (.int a :: st) h := by
  intro p e s m args below meth c H locs ls X
  obtain ⟨⟨hx, hb, hr, hml, hown, hts, hlk⟩, hSt, hP, hS, hl⟩ := id X
  exact lv_if_eq hx hb hdg ht (fun q => kt q p e s m args below meth c H locs ls X) (fun q => kf q p e s m args below meth c H locs ls X)
theorem r_icmp_eq {a b : Int32} {off : Int} {tgt : Nat} (hdg : decode cc pc = .ok (.if_icmp .eq off, 3)) (ht : (pc : Int) + off = (tgt : Int)) (kt : a = b → Wa E y cc nL ret d res tgt lv st h) (kf : ¬ (a = b) → Wa E y cc nL ret d res (pc + 3) lv st h) : Wa E y cc nL ret d res pc lv (.int b :: .int a :: st) h := by
  intro p e s m args below meth c H locs ls X
  obtain ⟨⟨hx, hb, hr, hml, hown, hts, hlk⟩, hSt, hP, hS, hl⟩ := id X
  exact lv_icmp_eq hx hb hdg ht (fun q => kt q p e s m args below meth c H locs ls X) (fun q => kf q p e s m args below meth c H locs ls X)
theorem r_if_ne {a : Int32} {off : Int} {tgt : Nat} (hdg : decode cc pc = .ok (.ifCond .ne off, 3)) (ht : (pc : Int) + off = (tgt : Int)) (kt : ¬ a = 0 → Wa E y cc nL ret d res tgt lv st h) (kf : a = 0 → Wa E y cc nL ret d res (pc + 3) lv st h) : Wa E y cc nL ret d res pc lv (.int a :: st) h := by
  intro p e s m args below meth c H locs ls X
  obtain ⟨⟨hx, hb, hr, hml, hown, hts, hlk⟩, hSt, hP, hS, hl⟩ := id X
  exact lv_if_ne hx hb hdg ht (fun q => kt q p e s m args below meth c H locs ls X) (fun q => kf q p e s m args below meth c H locs ls X)
theorem r_icmp_ne {a b : Int32} {off : Int} {tgt : Nat} (hdg : decode cc pc = .ok (.if_icmp .ne off, 3)) (ht : (pc : Int) + off = (tgt : Int)) (kt : ¬ a = b → Wa E y cc nL ret d res tgt lv st h) (kf : a = b → Wa E y cc nL ret d res (pc + 3) lv st h) : Wa E y cc nL ret d res pc lv (.int b :: .int a :: st) h := by
  intro p e s m args below meth c H locs ls X
  obtain ⟨⟨hx, hb, hr, hml, hown, hts, hlk⟩, hSt, hP, hS, hl⟩ := id X
  exact lv_icmp_ne hx hb hdg ht (fun q => kt q p e s m args below meth c H locs ls X) (fun q => kf q p e s m args below meth c H locs ls X)
theorem r_if_lt {a : Int32} {off : Int} {tgt : Nat} (hdg : decode cc pc = .ok (.ifCond .lt off, 3)) (ht : (pc : Int) + off = (tgt : Int)) (kt : a < 0 → Wa E y cc nL ret d res tgt lv st h) (kf : ¬ (a < 0) → Wa E y cc nL ret d res (pc + 3) lv st h) : Wa E y cc nL ret d res pc lv (.int a :: st) h := by
  intro p e s m args below meth c H locs ls X
  obtain ⟨⟨hx, hb, hr, hml, hown, hts, hlk⟩, hSt, hP, hS, hl⟩ := id X
  exact lv_if_lt hx hb hdg ht (fun q => kt q p e s m args below meth c H locs ls X) (fun q => kf q p e s m args below meth c H locs ls X)
theorem r_icmp_lt {a b : Int32} {off : Int} {tgt : Nat} (hdg : decode cc pc = .ok (.if_icmp .lt off, 3)) (ht : (pc : Int) + off = (tgt : Int)) (kt : a < b → Wa E y cc nL ret d res tgt lv st h) (kf : ¬ (a < b) → Wa E y cc nL ret d res (pc + 3) lv st h) : Wa E y cc nL ret d res pc lv (.int b :: .int a :: st) h := by
  intro p e s m args below meth c H locs ls X
  obtain ⟨⟨hx, hb, hr, hml, hown, hts, hlk⟩, hSt, hP, hS, hl⟩ := id X
  exact lv_icmp_lt hx hb hdg ht (fun q => kt q p e s m args below meth c H locs ls X) (fun q => kf q p e s m args below meth c H locs ls X)
theorem r_if_ge {a : Int32} {off : Int} {tgt : Nat} (hdg : decode cc pc = .ok (.ifCond .ge off, 3)) (ht : (pc : Int) + off = (tgt : Int)) (kt : 0 ≤ a → Wa E y cc nL ret d res tgt lv st h) (kf : ¬ (0 ≤ a) → Wa E y cc nL ret d res (pc + 3) lv st h) : Wa E y cc nL ret d res pc lv (.int a :: st) h := by
  intro p e s m args below meth c H locs ls X
  obtain ⟨⟨hx, hb, hr, hml, hown, hts, hlk⟩, hSt, hP, hS, hl⟩ := id X
  exact lv_if_ge hx hb hdg ht (fun q => kt q p e s m args below meth c H locs ls X) (fun q => kf q p e s m args below meth c H locs ls X)
theorem r_icmp_ge {a b : Int32} {off : Int} {tgt : Nat} (hdg : decode cc pc = .ok (.if_icmp .ge off, 3)) (ht : (pc : Int) + off = (tgt : Int)) (kt : b ≤ a → Wa E y cc nL ret d res tgt lv st h) (kf : ¬ (b ≤ a) → Wa E y cc nL ret d res (pc + 3) lv st h) : Wa E y cc nL ret d res pc lv (.int b :: .int a :: st) h := by
  intro p e s m args below meth c H locs ls X
  obtain ⟨⟨hx, hb, hr, hml, hown, hts, hlk⟩, hSt, hP, hS, hl⟩ := id X
  exact lv_icmp_ge hx hb hdg ht (fun q => kt q p e s m args below meth c H locs ls X) (fun q => kf q p e s m args below meth c H locs ls X)
theorem r_if_gt {a : Int32} {off : Int} {tgt : Nat} (hdg : decode cc pc = .ok (.ifCond .gt off, 3)) (ht : (pc : Int) + off = (tgt : Int)) (kt : 0 < a → Wa E y cc nL ret d res tgt lv st h) (kf : ¬ (0 < a) → Wa E y cc nL ret d res (pc + 3) lv st h) : Wa E y cc nL ret d res pc lv (.int a :: st) h := by
  intro p e s m args below meth c H locs ls X
  obtain ⟨⟨hx, hb, hr, hml, hown, hts, hlk⟩, hSt, hP, hS, hl⟩ := id X
  exact lv_if_gt hx hb hdg ht (fun q => kt q p e s m args below meth c H locs ls X) (fun q => kf q p e s m args below meth c H locs ls X)
theorem r_icmp_gt {a b : Int32} {off : Int} {tgt : Nat} (hdg : decode cc pc = .ok (.if_icmp .gt off, 3)) (ht : (pc : Int) + off = (tgt : Int)) (kt : b < a → Wa E y cc nL ret d res tgt lv st h) (kf : ¬ (b < a) → Wa E y cc nL ret d res (pc + 3) lv st h) : Wa E y cc nL ret d res pc lv (.int b :: .int a :: st) h := by
  intro p e s m args below meth c H locs ls X
  obtain ⟨⟨hx, hb, hr, hml, hown, hts, hlk⟩, hSt, hP, hS, hl⟩ := id X
  exact lv_icmp_gt hx hb hdg ht (fun q => kt q p e s m args below meth c H locs ls X) (fun q => kf q p e s m args below meth c H locs ls X)
theorem r_if_le {a : Int32} {off : Int} {tgt : Nat} (hdg : decode cc pc = .ok (.ifCond .le off, 3)) (ht : (pc : Int) + off = (tgt : Int)) (kt : a ≤ 0 → Wa E y cc nL ret d res tgt lv st h) (kf : ¬ (a ≤ 0) → Wa E y cc nL ret d res (pc + 3) lv st h) : Wa E y cc nL ret d res pc lv (.int a :: st) h := by
  intro p e s m args below meth c H locs ls X
  obtain ⟨⟨hx, hb, hr, hml, hown, hts, hlk⟩, hSt, hP, hS, hl⟩ := id X
  exact lv_if_le hx hb hdg ht (fun q => kt q p e s m args below meth c H locs ls X) (fun q => kf q p e s m args below meth c H locs ls X)
theorem r_icmp_le {a b : Int32} {off : Int} {tgt : Nat} (hdg : decode cc pc = .ok (.if_icmp .le off, 3)) (ht : (pc : Int) + off = (tgt : Int)) (kt : a ≤ b → Wa E y cc nL ret d res tgt lv st h) (kf : ¬ (a ≤ b) → Wa E y cc nL ret d res (pc + 3) lv st h) : Wa E y cc nL ret d res pc lv (.int b :: .int a :: st) h := by
  intro p e s m args below meth c H locs ls X
  obtain ⟨⟨hx, hb, hr, hml, hown, hts, hlk⟩, hSt, hP, hS, hl⟩ := id X
  exact lv_icmp_le hx hb hdg ht (fun q => kt q p e s m args below meth c H locs ls X) (fun q => kf q p e s m args below meth c H locs ls X)
theorem r_goto {off : Int} {tgt : Nat} (hdg : decode cc pc = .ok (.goto off, 3)) (ht : (pc : Int) + off = (tgt : Int)) (k : Wa E y cc nL ret d res tgt lv st h) : Wa E y cc nL ret d res pc lv st h := by
  intro p e s m args below meth c H locs ls X
  obtain ⟨⟨hx, hb, hr, hml, hown, hts, hlk⟩, hSt, hP, hS, hl⟩ := id X
  exact lv_goto hx hb hdg ht (k p e s m args below meth c H locs ls X)
theorem r_ldc {index : Nat} {v : Int32} (hw : Cond.constant y.cls index v ∈ TG) (hdg : decode cc pc = .ok (.ldc index, 2)) (k : Wa E y cc nL ret d res (pc + 2) lv (.int v :: st) h) : Wa E y cc nL ret d res pc lv st h := by
  intro p e s m args below meth c H locs ls X
  obtain ⟨⟨hx, hb, hr, hml, hown, hts, hlk⟩, hSt, hP, hS, hl⟩ := id X
  exact lv_ldc hx hb hown (hts _ hw) hdg (k p e s m args below meth c H locs ls X)
theorem r_ldcw {index : Nat} {v : Int32} (hw : Cond.constant y.cls index v ∈ TG) (hdg : decode cc pc = .ok (.ldc_w index, 3)) (k : Wa E y cc nL ret d res (pc + 3) lv (.int v :: st) h) : Wa E y cc nL ret d res pc lv st h := by
  intro p e s m args below meth c H locs ls X
  obtain ⟨⟨hx, hb, hr, hml, hown, hts, hlk⟩, hSt, hP, hS, hl⟩ := id X
  exact lv_ldcw hx hb hown (hts _ hw) hdg (k p e s m args below meth c H locs ls X)
theorem r_ldc2 {index : Nat} {v : Int64} (hw : Cond.constantLong y.cls index v ∈ TG) (hdg : decode cc pc = .ok (.ldc2_w index, 3)) (k : Wa E y cc nL ret d res (pc + 3) lv (.long v :: st) h) : Wa E y cc nL ret d res pc lv st h := by
  intro p e s m args below meth c H locs ls X
  obtain ⟨⟨hx, hb, hr, hml, hown, hts, hlk⟩, hSt, hP, hS, hl⟩ := id X
  exact lv_ldc2 hx hb hown (hts _ hw) hdg (k p e s m args below meth c H locs ls X)
theorem r_ldcS {index : Nat} (i : Nat) (hi : i < 14) (hix : 22 + 2 * i = index) (hy : y.cls = "DuelSamples$Script") (hdg : decode cc pc = .ok (.ldc index, 2)) (k : Wa E y cc nL ret d res (pc + 2) lv (.ref (eK E i) :: st) h) : Wa E y cc nL ret d res pc lv st h := by
  intro p e s m args below meth c H locs ls X
  obtain ⟨⟨hx, hb, hr, hml, hown, hts, hlk⟩, hSt, hP, hS, hl⟩ := id X
  subst hix
  rw [hy] at hown
  exact va_ldcS hx hb hown (hSt.2.2.2.2.2.2.1 i hi) hdg (k p e s m args below meth c H locs ls X)
theorem r_get {ref C : String} {T : u_T} {N ci index : Nat} {a : Nat} {fs : List Value} {v : Value} (hin : ∀ w ∈ u_ws C T N, w ∈ TG) (q0 : Nat) (he : (wl E h)[q0]? = some (a, .inr (ci, fs))) (hc : classes[ci]? = some (C, T, N)) (k0 : Nat) (hk : k0 < N) (hlink : Cond.fieldLink y.cls index ref (T k0).2.1 (T k0).2.2.1 ∈ TG) (hs : (T k0).1 = ref) (hv : fs[k0]? = some v) (hdg : decode cc pc = .ok (.getfield index, 3)) (k : Wa E y cc nL ret d res (pc + 3) lv (v :: st) h) : Wa E y cc nL ret d res pc lv (.ref a :: st) h := by
  intro p e s m args below meth c H locs ls X
  obtain ⟨⟨hx, hb, hr, hml, hown, hts, hlk⟩, hSt, hP, hS, hl⟩ := id X
  exact va_get hx hb hts hin hown hSt.1 hP q0 he hc k0 hk (hts _ hlink) (fun x q => by rw [← hs]; exact q) hv hdg (k p e s m args below meth c H locs ls X)
theorem r_getN {ref C host : String} {T : u_T} {N ci index : Nat} {a : Nat} {fs : List Value} {v : Value} (hin : ∀ w ∈ u_ws C T N, w ∈ TG) (q0 : Nat) (he : (wl E h)[q0]? = some (a, .inr (ci, fs))) (hc : classes[ci]? = some (C, T, N)) (k0 : Nat) (hk : k0 < N) (hlink : Cond.fieldLinkNest y.cls index ref (T k0).2.1 (T k0).2.2.1 host ∈ NW) (hs : (T k0).1 = ref) (hv : fs[k0]? = some v) (hdg : decode cc pc = .ok (.getfield index, 3)) (k : Wa E y cc nL ret d res (pc + 3) lv (v :: st) h) : Wa E y cc nL ret d res pc lv (.ref a :: st) h := by
  intro p e s m args below meth c H locs ls X
  obtain ⟨⟨hx, hb, hr, hml, hown, hts, hlk⟩, hSt, hP, hS, hl⟩ := id X
  exact va_getN hx hb hts hin hown hSt.1 hP q0 he hc k0 hk (va_Nw.use rfl (hSt.2.2.1 _ hlink)) (fun x q => by rw [← hs]; exact q) hv hdg (k p e s m args below meth c H locs ls X)
theorem r_put {ref C : String} {T : u_T} {N ci index : Nat} {a : Nat} {fs : List Value} {x : Int32} {h2 : Hp} (hin : ∀ w ∈ u_ws C T N, w ∈ TG) {ty0 : Nat → FieldType} (hty : ∀ k, k < N → parseFieldDescriptor (T k).2.2.1 = some (ty0 k)) (hnm : ∀ a, a < N → ∀ b, b < N → a ≠ b → (T a).2.1 ≠ (T b).2.1) (q0 : Nat) (he : (wl E h)[q0]? = some (a, .inr (ci, fs))) (hc : classes[ci]? = some (C, T, N)) (k0 : Nat) (hk : k0 < N) (hlink : Cond.fieldLink y.cls index ref (T k0).2.1 (T k0).2.2.1 ∈ TG) (hs : (T k0).1 = ref) (hfin : (T k0).2.2.2 = false) (hd : parseFieldDescriptor (T k0).2.2.1 = some .int) (hlen : k0 < fs.length) (hset : (wl E h).set q0 (a, .inr (ci, fs.set k0 (.int x))) = wl E h2) (hdg : decode cc pc = .ok (.putfield index, 3)) (k : Wa E y cc nL ret d res (pc + 3) lv st h2) : Wa E y cc nL ret d res pc lv (.int x :: .ref a :: st) h := by
  intro p e s m args below meth c H locs ls X
  obtain ⟨⟨hx, hb, hr, hml, hown, hts, hlk⟩, hSt, hP, hS, hl⟩ := id X
  refine va_put hx hb hts hin ty0 hty hnm hown hSt.1 hP (wl_D h hSt.2.1) hS q0 he hc k0 hk (hts _ hlink) (fun x q => by rw [← hs]; exact q) hfin hd rfl rfl hlen hdg (fun H1 locs1 hP1 hD1 hS1 => ?_)
  rw [hset] at hP1
  exact k p e s m args below meth c H1 locs1 ls ⟨X.1, hSt, hP1, hS1, hl⟩
theorem r_putN {ref C host : String} {T : u_T} {N ci index : Nat} {a : Nat} {fs : List Value} {x : Int32} {h2 : Hp} (hin : ∀ w ∈ u_ws C T N, w ∈ TG) {ty0 : Nat → FieldType} (hty : ∀ k, k < N → parseFieldDescriptor (T k).2.2.1 = some (ty0 k)) (hnm : ∀ a, a < N → ∀ b, b < N → a ≠ b → (T a).2.1 ≠ (T b).2.1) (q0 : Nat) (he : (wl E h)[q0]? = some (a, .inr (ci, fs))) (hc : classes[ci]? = some (C, T, N)) (k0 : Nat) (hk : k0 < N) (hlink : Cond.fieldLinkNest y.cls index ref (T k0).2.1 (T k0).2.2.1 host ∈ NW) (hs : (T k0).1 = ref) (hfin : (T k0).2.2.2 = false) (hd : parseFieldDescriptor (T k0).2.2.1 = some .int) (hlen : k0 < fs.length) (hset : (wl E h).set q0 (a, .inr (ci, fs.set k0 (.int x))) = wl E h2) (hdg : decode cc pc = .ok (.putfield index, 3)) (k : Wa E y cc nL ret d res (pc + 3) lv st h2) : Wa E y cc nL ret d res pc lv (.int x :: .ref a :: st) h := by
  intro p e s m args below meth c H locs ls X
  obtain ⟨⟨hx, hb, hr, hml, hown, hts, hlk⟩, hSt, hP, hS, hl⟩ := id X
  refine va_putN hx hb hts hin ty0 hty hnm hown hSt.1 hP (wl_D h hSt.2.1) hS q0 he hc k0 hk (va_Nw.use rfl (hSt.2.2.1 _ hlink)) (fun x q => by rw [← hs]; exact q) hfin hd rfl rfl hlen hdg (fun H1 locs1 hP1 hD1 hS1 => ?_)
  rw [hset] at hP1
  exact k p e s m args below meth c H1 locs1 ls ⟨X.1, hSt, hP1, hS1, hl⟩
theorem r_iald {a n : Nat} {f : Nat → Int32} {i : Int32} (q0 : Nat) (he : (wl E h)[q0]? = some (a, .inl (eI E, n, .inl f))) (hi : vp_in i n) (hdg : decode cc pc = .ok (.iaload, 1)) (k : Wa E y cc nL ret d res (pc + 1) lv (.int (f i.toNatClampNeg) :: st) h) : Wa E y cc nL ret d res pc lv (.int i :: .ref a :: st) h := by
  intro p e s m args below meth c H locs ls X
  obtain ⟨⟨hx, hb, hr, hml, hown, hts, hlk⟩, hSt, hP, hS, hl⟩ := id X
  exact va_iald hx hb hSt.1 hP q0 0 he rfl hi hdg (k p e s m args below meth c H locs ls X)
theorem r_bald {a n : Nat} {f : Nat → Int32} {i : Int32} (q0 : Nat) (he : (wl E h)[q0]? = some (a, .inl (eB E, n, .inl f))) (hi : vp_in i n) (hdg : decode cc pc = .ok (.baload, 1)) (k : Wa E y cc nL ret d res (pc + 1) lv (.int (f i.toNatClampNeg) :: st) h) : Wa E y cc nL ret d res pc lv (.int i :: .ref a :: st) h := by
  intro p e s m args below meth c H locs ls X
  obtain ⟨⟨hx, hb, hr, hml, hown, hts, hlk⟩, hSt, hP, hS, hl⟩ := id X
  exact va_bald hx hb hSt.1 hP q0 1 he rfl hi hdg (k p e s m args below meth c H locs ls X)
theorem r_zald {a n : Nat} {f : Nat → Int32} {i : Int32} (q0 : Nat) (he : (wl E h)[q0]? = some (a, .inl (eZ E, n, .inl f))) (hi : vp_in i n) (hdg : decode cc pc = .ok (.baload, 1)) (k : Wa E y cc nL ret d res (pc + 1) lv (.int (f i.toNatClampNeg) :: st) h) : Wa E y cc nL ret d res pc lv (.int i :: .ref a :: st) h := by
  intro p e s m args below meth c H locs ls X
  obtain ⟨⟨hx, hb, hr, hml, hown, hts, hlk⟩, hSt, hP, hS, hl⟩ := id X
  exact va_zald hx hb hSt.1 hP q0 3 he rfl hi hdg (k p e s m args below meth c H locs ls X)
theorem r_lald {a n : Nat} {f : Nat → Int64} {i : Int32} (q0 : Nat) (he : (wl E h)[q0]? = some (a, .inl (eJ E, n, .inr (.inl f)))) (hi : vp_in i n) (hdg : decode cc pc = .ok (.laload, 1)) (k : Wa E y cc nL ret d res (pc + 1) lv (.long (f i.toNatClampNeg) :: st) h) : Wa E y cc nL ret d res pc lv (.int i :: .ref a :: st) h := by
  intro p e s m args below meth c H locs ls X
  obtain ⟨⟨hx, hb, hr, hml, hown, hts, hlk⟩, hSt, hP, hS, hl⟩ := id X
  exact va_lald hx hb hSt.1 hP q0 2 he rfl hi hdg (k p e s m args below meth c H locs ls X)
theorem r_iast {a n : Nat} {f : Nat → Int32} {i : Int32} {x : Int32} {h2 : Hp} (q0 : Nat) (he : (wl E h)[q0]? = some (a, .inl (eI E, n, .inl f))) (hset : (wl E h).set q0 (a, .inl (eI E, n, .inl (upd f i.toNatClampNeg x))) = wl E h2) (hi : vp_in i n) (hdg : decode cc pc = .ok (.iastore, 1)) (k : Wa E y cc nL ret d res (pc + 1) lv st h2) : Wa E y cc nL ret d res pc lv (.int x :: .int i :: .ref a :: st) h := by
  intro p e s m args below meth c H locs ls X
  obtain ⟨⟨hx, hb, hr, hml, hown, hts, hlk⟩, hSt, hP, hS, hl⟩ := id X
  refine va_iast hx hb hSt.1 hP (wl_D h hSt.2.1) hS q0 0 he rfl hi hdg (fun H1 locs1 hP1 hD1 hS1 => ?_)
  rw [hset] at hP1
  exact k p e s m args below meth c H1 locs1 ls ⟨X.1, hSt, hP1, hS1, hl⟩
theorem r_bast {a n : Nat} {f : Nat → Int32} {i : Int32} {x : Int32} {h2 : Hp} (q0 : Nat) (he : (wl E h)[q0]? = some (a, .inl (eB E, n, .inl f))) (hset : (wl E h).set q0 (a, .inl (eB E, n, .inl (upd f i.toNatClampNeg (vp_nar .byte x)))) = wl E h2) (hi : vp_in i n) (hdg : decode cc pc = .ok (.bastore, 1)) (k : Wa E y cc nL ret d res (pc + 1) lv st h2) : Wa E y cc nL ret d res pc lv (.int x :: .int i :: .ref a :: st) h := by
  intro p e s m args below meth c H locs ls X
  obtain ⟨⟨hx, hb, hr, hml, hown, hts, hlk⟩, hSt, hP, hS, hl⟩ := id X
  refine va_bast hx hb hSt.1 hP (wl_D h hSt.2.1) hS q0 1 he rfl hi hdg (fun H1 locs1 hP1 hD1 hS1 => ?_)
  rw [hset] at hP1
  exact k p e s m args below meth c H1 locs1 ls ⟨X.1, hSt, hP1, hS1, hl⟩
theorem r_zast {a n : Nat} {f : Nat → Int32} {i : Int32} {x : Int32} {h2 : Hp} (q0 : Nat) (he : (wl E h)[q0]? = some (a, .inl (eZ E, n, .inl f))) (hset : (wl E h).set q0 (a, .inl (eZ E, n, .inl (upd f i.toNatClampNeg (vp_nar .boolean x)))) = wl E h2) (hi : vp_in i n) (hdg : decode cc pc = .ok (.bastore, 1)) (k : Wa E y cc nL ret d res (pc + 1) lv st h2) : Wa E y cc nL ret d res pc lv (.int x :: .int i :: .ref a :: st) h := by
  intro p e s m args below meth c H locs ls X
  obtain ⟨⟨hx, hb, hr, hml, hown, hts, hlk⟩, hSt, hP, hS, hl⟩ := id X
  refine va_zast hx hb hSt.1 hP (wl_D h hSt.2.1) hS q0 3 he rfl hi hdg (fun H1 locs1 hP1 hD1 hS1 => ?_)
  rw [hset] at hP1
  exact k p e s m args below meth c H1 locs1 ls ⟨X.1, hSt, hP1, hS1, hl⟩
theorem r_last {a n : Nat} {f : Nat → Int64} {i : Int32} {x : Int64} {h2 : Hp} (q0 : Nat) (he : (wl E h)[q0]? = some (a, .inl (eJ E, n, .inr (.inl f)))) (hset : (wl E h).set q0 (a, .inl (eJ E, n, .inr (.inl (vp_updL f i.toNatClampNeg x)))) = wl E h2) (hi : vp_in i n) (hdg : decode cc pc = .ok (.lastore, 1)) (k : Wa E y cc nL ret d res (pc + 1) lv st h2) : Wa E y cc nL ret d res pc lv (.long x :: .int i :: .ref a :: st) h := by
  intro p e s m args below meth c H locs ls X
  obtain ⟨⟨hx, hb, hr, hml, hown, hts, hlk⟩, hSt, hP, hS, hl⟩ := id X
  refine va_last hx hb hSt.1 hP (wl_D h hSt.2.1) hS q0 2 he rfl hi hdg (fun H1 locs1 hP1 hD1 hS1 => ?_)
  rw [hset] at hP1
  exact k p e s m args below meth c H1 locs1 ls ⟨X.1, hSt, hP1, hS1, hl⟩
theorem r_alen {a : Nat} {cA : ClassId} {x : vp_A} {ty : FieldType} {v : Int32} (q0 t0 : Nat) (he : (wl E h)[q0]? = some (a, .inl (cA, x))) (ht : (tys E)[t0]? = some (cA, ty)) (hv : Int32.ofNat x.1 = v) (hdg : decode cc pc = .ok (.arraylength, 1)) (k : Wa E y cc nL ret d res (pc + 1) lv (.int v :: st) h) : Wa E y cc nL ret d res pc lv (.ref a :: st) h := by
  intro p e s m args below meth c H locs ls X
  obtain ⟨⟨hx, hb, hr, hml, hown, hts, hlk⟩, hSt, hP, hS, hl⟩ := id X
  exact va_alen hx hb hSt.1 hP q0 t0 he ht hv hdg (k p e s m args below meth c H locs ls X)
theorem r_aald {i : Int32} (hi : vp_in i 5) (hdg : decode cc pc = .ok (.aaload, 1)) (k : Wa E y cc nL ret d res (pc + 1) lv (.ref (eA E (3 + i.toNatClampNeg)) :: st) h) : Wa E y cc nL ret d res pc lv (.int i :: .ref (eA E 2) :: st) h := by
  intro p e s m args below meth c H locs ls X
  obtain ⟨⟨hx, hb, hr, hml, hown, hts, hlk⟩, hSt, hP, hS, hl⟩ := id X
  have hlt : i.toNatClampNeg < 5 := Nat.not_le.mp fun q => hi (Or.inr q)
  have hc : H[eA E 2]? = some (vp_cell (eG E) (5, .inr (.inr (.inr (.inr (fun i => if i < 5 then some (eA E (3 + i)) else none)))))) := hP 2 _ rfl
  refine W.aald (v := .ref (eA E (3 + i.toNatClampNeg))) (ty := .array .int) hx hb hc ((hSt.1.2 4 _ rfl).1 5 (fun j => va_rf (if j < 5 then some (eA E (3 + j)) else none))) rfl (fun q => by cases q) (by show ¬ (i < 0 ∨ (arrV _ _ _).slots.size ≤ _); rw [arrV_size]; exact hi) (by show (arrV _ _ _).slots[_]? = _; rw [arrV_read _ _ hlt]; show some (va_rf (if i.toNatClampNeg < 5 then some (eA E (3 + i.toNatClampNeg)) else none)) = _; rw [if_pos hlt]; rfl) rfl rfl hdg (k p e s m args below meth c H locs ls X)
theorem wl_row {E : EN} {h : Hp} {j : Nat} (hj : j < 5) : (wl E h)[3 + j]? = some (eA E (3 + j), .inl (eI E, 12, .inl (h.2.1.2.2 j))) := by
  rcases (show j = 0 ∨ j = 1 ∨ j = 2 ∨ j = 3 ∨ j = 4 by omega) with rfl | rfl | rfl | rfl | rfl <;> rfl
def up2 (F : Nat → Nat → Int32) (j i : Nat) (x : Int32) : Nat → Nat → Int32 := fun r => if r = j then upd (F j) i x else F r
theorem wl_rowset {E : EN} {X : TX} {a b : Int32} {F : Nat → Nat → Int32} {r : TC × TC × TK × TS × TP × TM} {j i : Nat} {x : Int32} (hj : j < 5) : (wl E (X, (a, b, F), r)).set (3 + j) (eA E (3 + j), .inl (eI E, 12, .inl (upd (F j) i x))) = wl E (X, (a, b, up2 F j i x), r) := by
  rcases (show j = 0 ∨ j = 1 ∨ j = 2 ∨ j = 3 ∨ j = 4 by omega) with rfl | rfl | rfl | rfl | rfl <;> rfl
theorem r_rowld {i u : Int32} (hi : vp_in i 5) (hu : vp_in u 12) (hdg : decode cc pc = .ok (.iaload, 1)) (k : Wa E y cc nL ret d res (pc + 1) lv (.int (h.2.1.2.2 i.toNatClampNeg u.toNatClampNeg) :: st) h) : Wa E y cc nL ret d res pc lv (.int u :: .ref (eA E (3 + i.toNatClampNeg)) :: st) h :=
  r_iald (3 + i.toNatClampNeg) (wl_row (Nat.not_le.mp fun q => hi (Or.inr q))) hu hdg k
theorem r_rowst {X : TX} {a b : Int32} {F : Nat → Nat → Int32} {r : TC × TC × TK × TS × TP × TM} {i u x : Int32} (hi : vp_in i 5) (hu : vp_in u 12) (hdg : decode cc pc = .ok (.iastore, 1)) (k : Wa E y cc nL ret d res (pc + 1) lv st (X, (a, b, up2 F i.toNatClampNeg u.toNatClampNeg x), r)) : Wa E y cc nL ret d res pc lv (.int x :: .int u :: .ref (eA E (3 + i.toNatClampNeg)) :: st) (X, (a, b, F), r) :=
  r_iast (3 + i.toNatClampNeg) (wl_row (Nat.not_le.mp fun q => hi (Or.inr q))) (wl_rowset (Nat.not_le.mp fun q => hi (Or.inr q))) hu hdg k
theorem r_most {index : Nat} (hlink : Cond.fieldLink y.cls index "DuelSamples$Roster" "MOST" "[I" ∈ TG) (hdg : decode cc pc = .ok (.getstatic index, 3)) (k : Wa E y cc nL ret d res (pc + 3) lv (.ref (eM E) :: st) h) : Wa E y cc nL ret d res pc lv st h := by
  intro p e s m args below meth c H locs ls X
  obtain ⟨⟨hx, hb, hr, hml, hown, hts, hlk⟩, hSt, hP, hS, hl⟩ := id X
  exact va_gets hx hb hSt.2.2.2.1 hS hown (hts _ hlink) (fun x q => q) hdg (k p e s m args below meth c H locs ls X)
theorem r_mostld {i : Int32} (hi : vp_in i 5) (hdg : decode cc pc = .ok (.iaload, 1)) (k : Wa E y cc nL ret d res (pc + 1) lv (.int ((([12, 99, 3, 99, 99] : List Int32)).getD i.toNatClampNeg 0) :: st) h) : Wa E y cc nL ret d res pc lv (.int i :: .ref (eM E) :: st) h := by
  intro p e s m args below meth c H locs ls X
  obtain ⟨⟨hx, hb, hr, hml, hown, hts, hlk⟩, hSt, hP, hS, hl⟩ := id X
  exact va_ti hx hb hSt.2.2.2.2.1 hS hi rfl hdg (k p e s m args below meth c H locs ls X)
theorem r_mostlen (hdg : decode cc pc = .ok (.arraylength, 1)) (k : Wa E y cc nL ret d res (pc + 1) lv (.int 5 :: st) h) : Wa E y cc nL ret d res pc lv (.ref (eM E) :: st) h := by
  intro p e s m args below meth c H locs ls X
  obtain ⟨⟨hx, hb, hr, hml, hown, hts, hlk⟩, hSt, hP, hS, hl⟩ := id X
  exact va_tlen hx hb hSt.2.2.2.2.1 hS rfl hdg (k p e s m args below meth c H locs ls X)
theorem r_iret {x : Int32} (hret : ret = some .int) (hdg : decode cc pc = .ok (.ireturn, 1)) : Wa E y cc nL ret d (some (.int x), h) pc lv [.int x] h := by
  intro p e s m args below meth c H locs ls X
  obtain ⟨⟨hx, hb, hr, hml, hown, hts, hlk⟩, hSt, hP, hS, hl⟩ := id X
  subst hret
  exact W.iret hx hb hr (fun t ht hW => ⟨rfl, by rw [ht]; exact hP, hS.F ht⟩) hS.2.2 hdg hlk
theorem r_lret {x : Int64} (hret : ret = some .long) (hdg : decode cc pc = .ok (.lreturn, 1)) : Wa E y cc nL ret d (some (.long x), h) pc lv [.long x] h := by
  intro p e s m args below meth c H locs ls X
  obtain ⟨⟨hx, hb, hr, hml, hown, hts, hlk⟩, hSt, hP, hS, hl⟩ := id X
  subst hret
  exact W.lret hx hb hr (fun t ht hW => ⟨rfl, by rw [ht]; exact hP, hS.F ht⟩) hS.2.2 hdg hlk
theorem r_zret {x : Int32} {ty : FieldType} (hret : ret = some ty) (hn : narrow ty (.int x) = .int x) (hdg : decode cc pc = .ok (.ireturn, 1)) : Wa E y cc nL ret d (some (.int x), h) pc lv [.int x] h := by
  intro p e s m args below meth c H locs ls X
  obtain ⟨⟨hx, hb, hr, hml, hown, hts, hlk⟩, hSt, hP, hS, hl⟩ := id X
  subst hret
  exact W.zret hx hb hr hn (fun t ht hW => ⟨rfl, by rw [ht]; exact hP, hS.F ht⟩) hS.2.2 hdg hlk
theorem r_vret (hret : ret = none) (hdg : decode cc pc = .ok (.return_, 1)) : Wa E y cc nL ret d (none, h) pc lv [] h := by
  intro p e s m args below meth c H locs ls X
  obtain ⟨⟨hx, hb, hr, hml, hown, hts, hlk⟩, hSt, hP, hS, hl⟩ := id X
  subst hret
  exact W.vret hx hb hr (fun t ht hW => ⟨rfl, by rw [ht]; exact hP, hS.F ht⟩) hS.2.2 hdg hlk
theorem r_aret {a : Nat} {n : String} (hret : ret = some (.object n)) (hdg : decode cc pc = .ok (.areturn, 1)) : Wa E y cc nL ret d (some (.ref a), h) pc lv [.ref a] h := by
  intro p e s m args below meth c H locs ls X
  obtain ⟨⟨hx, hb, hr, hml, hown, hts, hlk⟩, hSt, hP, hS, hl⟩ := id X
  subst hret
  exact W.aret hx hb hr (Or.inl ⟨_, rfl⟩) (Or.inr ⟨_, rfl⟩) (fun t ht hW => ⟨rfl, by rw [ht]; exact hP, hS.F ht⟩) hS.2.2 hdg hlk
end
end
section
theorem wd_0 : Cond.selects "DuelSamples" ⟨"DuelSamples", "refuse", "(I)I"⟩ ⟨"DuelSamples", "refuse", "(I)I"⟩ ∈ TG := List.mem_filter.mpr ⟨List.mem_of_getElem? (i := 0) (by decide +kernel), rfl⟩
theorem wd_1 : Cond.selects "DuelSamples" ⟨"DuelSamples", "knownOf", "(II)I"⟩ ⟨"DuelSamples", "knownOf", "(II)I"⟩ ∈ TG := List.mem_filter.mpr ⟨List.mem_of_getElem? (i := 1) (by decide +kernel), rfl⟩
theorem wd_2 : Cond.selects "DuelSamples" ⟨"DuelSamples", "changeMethod", "(I)I"⟩ ⟨"DuelSamples", "changeMethod", "(I)I"⟩ ∈ TG := List.mem_filter.mpr ⟨List.mem_of_getElem? (i := 2) (by decide +kernel), rfl⟩
theorem wd_3 : Cond.selects "DuelSamples$Course" ⟨"DuelSamples$Course", "openFrom", "(I)I"⟩ ⟨"DuelSamples$Course", "openFrom", "(I)I"⟩ ∈ TG := List.mem_filter.mpr ⟨List.mem_of_getElem? (i := 3) (by decide +kernel), rfl⟩
theorem wd_4 : Cond.selects "DuelSamples$Course" ⟨"DuelSamples$Course", "isOpen", "(I)Z"⟩ ⟨"DuelSamples$Course", "isOpen", "(I)Z"⟩ ∈ TG := List.mem_filter.mpr ⟨List.mem_of_getElem? (i := 4) (by decide +kernel), rfl⟩
theorem wd_5 : Cond.selects "DuelSamples$Course" ⟨"DuelSamples$Course", "byDistance", "(LDuelSamples$Roster;I)I"⟩ ⟨"DuelSamples$Course", "byDistance", "(LDuelSamples$Roster;I)I"⟩ ∈ TG := List.mem_filter.mpr ⟨List.mem_of_getElem? (i := 5) (by decide +kernel), rfl⟩
theorem wd_6 : Cond.selects "DuelSamples$Course" ⟨"DuelSamples$Course", "pickOfStratum", "(LDuelSamples$Roster;)V"⟩ ⟨"DuelSamples$Course", "pickOfStratum", "(LDuelSamples$Roster;)V"⟩ ∈ TG := List.mem_filter.mpr ⟨List.mem_of_getElem? (i := 6) (by decide +kernel), rfl⟩
theorem wd_7 : Cond.selects "DuelSamples$Course" ⟨"DuelSamples$Course", "openOfStratum", "(LDuelSamples$Roster;II)I"⟩ ⟨"DuelSamples$Course", "openOfStratum", "(LDuelSamples$Roster;II)I"⟩ ∈ TG := List.mem_filter.mpr ⟨List.mem_of_getElem? (i := 7) (by decide +kernel), rfl⟩
theorem wd_8 : Cond.selects "DuelSamples$Course" ⟨"DuelSamples$Course", "pickByChance", "()V"⟩ ⟨"DuelSamples$Course", "pickByChance", "()V"⟩ ∈ TG := List.mem_filter.mpr ⟨List.mem_of_getElem? (i := 8) (by decide +kernel), rfl⟩
theorem wd_9 : Cond.selects "DuelSamples$Course" ⟨"DuelSamples$Course", "mostLeftBut", "(I)I"⟩ ⟨"DuelSamples$Course", "mostLeftBut", "(I)I"⟩ ∈ TG := List.mem_filter.mpr ⟨List.mem_of_getElem? (i := 9) (by decide +kernel), rfl⟩
theorem wd_10 : Cond.selects "DuelSamples$Course" ⟨"DuelSamples$Course", "chancesOfBoth", "()I"⟩ ⟨"DuelSamples$Course", "chancesOfBoth", "()I"⟩ ∈ TG := List.mem_filter.mpr ⟨List.mem_of_getElem? (i := 10) (by decide +kernel), rfl⟩
theorem wd_11 : Cond.selects "DuelSamples$Course" ⟨"DuelSamples$Course", "leftOfBoth", "()I"⟩ ⟨"DuelSamples$Course", "leftOfBoth", "()I"⟩ ∈ TG := List.mem_filter.mpr ⟨List.mem_of_getElem? (i := 11) (by decide +kernel), rfl⟩
theorem wd_12 : Cond.selects "DuelSamples$Course" ⟨"DuelSamples$Course", "chancesOfFirst", "()I"⟩ ⟨"DuelSamples$Course", "chancesOfFirst", "()I"⟩ ∈ TG := List.mem_filter.mpr ⟨List.mem_of_getElem? (i := 12) (by decide +kernel), rfl⟩
theorem wd_13 : Cond.selects "DuelSamples$Course" ⟨"DuelSamples$Course", "write", "(Z)V"⟩ ⟨"DuelSamples$Course", "write", "(Z)V"⟩ ∈ TG := List.mem_filter.mpr ⟨List.mem_of_getElem? (i := 13) (by decide +kernel), rfl⟩
theorem wd_14 : Cond.selects "DuelSamples$Course" ⟨"DuelSamples$Course", "leave", "(II)V"⟩ ⟨"DuelSamples$Course", "leave", "(II)V"⟩ ∈ TG := List.mem_filter.mpr ⟨List.mem_of_getElem? (i := 14) (by decide +kernel), rfl⟩
theorem wd_15 : Cond.selects "DuelSamples" ⟨"DuelSamples", "walksWith", "(III)I"⟩ ⟨"DuelSamples", "walksWith", "(III)I"⟩ ∈ TG := List.mem_filter.mpr ⟨List.mem_of_getElem? (i := 15) (by decide +kernel), rfl⟩
theorem wd_16 : Cond.selects "DuelSamples$Reach" ⟨"DuelSamples$Reach", "mark", "(I)V"⟩ ⟨"DuelSamples$Reach", "mark", "(I)V"⟩ ∈ TG := List.mem_filter.mpr ⟨List.mem_of_getElem? (i := 16) (by decide +kernel), rfl⟩
theorem wd_17 : Cond.selects "DuelSamples$Reach" ⟨"DuelSamples$Reach", "isSeen", "(I)Z"⟩ ⟨"DuelSamples$Reach", "isSeen", "(I)Z"⟩ ∈ TG := List.mem_filter.mpr ⟨List.mem_of_getElem? (i := 17) (by decide +kernel), rfl⟩
theorem wd_18 : Cond.selects "DuelSamples$Script" ⟨"DuelSamples$Script", "skipBlanks", "()V"⟩ ⟨"DuelSamples$Script", "skipBlanks", "()V"⟩ ∈ TG := List.mem_filter.mpr ⟨List.mem_of_getElem? (i := 18) (by decide +kernel), rfl⟩
theorem wd_19 : Cond.selects "DuelSamples$Script" ⟨"DuelSamples$Script", "byteAt", "(I)I"⟩ ⟨"DuelSamples$Script", "byteAt", "(I)I"⟩ ∈ TG := List.mem_filter.mpr ⟨List.mem_of_getElem? (i := 19) (by decide +kernel), rfl⟩
theorem wd_20 : Cond.selects "DuelSamples$Script" ⟨"DuelSamples$Script", "readSentence", "()I"⟩ ⟨"DuelSamples$Script", "readSentence", "()I"⟩ ∈ TG := List.mem_filter.mpr ⟨List.mem_of_getElem? (i := 20) (by decide +kernel), rfl⟩
theorem wd_21 : Cond.selects "DuelSamples$Script" ⟨"DuelSamples$Script", "readWord", "()I"⟩ ⟨"DuelSamples$Script", "readWord", "()I"⟩ ∈ TG := List.mem_filter.mpr ⟨List.mem_of_getElem? (i := 21) (by decide +kernel), rfl⟩
theorem wd_22 : Cond.selects "DuelSamples$Script" ⟨"DuelSamples$Script", "stands", "(Ljava/lang/String;II)Z"⟩ ⟨"DuelSamples$Script", "stands", "(Ljava/lang/String;II)Z"⟩ ∈ TG := List.mem_filter.mpr ⟨List.mem_of_getElem? (i := 22) (by decide +kernel), rfl⟩
theorem wd_23 : Cond.selects "DuelSamples$Script" ⟨"DuelSamples$Script", "readNumber", "(I)I"⟩ ⟨"DuelSamples$Script", "readNumber", "(I)I"⟩ ∈ TG := List.mem_filter.mpr ⟨List.mem_of_getElem? (i := 23) (by decide +kernel), rfl⟩
theorem wd_24 : Cond.selects "DuelSamples$Script" ⟨"DuelSamples$Script", "mayStand", "(III)Z"⟩ ⟨"DuelSamples$Script", "mayStand", "(III)Z"⟩ ∈ TG := List.mem_filter.mpr ⟨List.mem_of_getElem? (i := 24) (by decide +kernel), rfl⟩
theorem wd_25 : Cond.selects "DuelSamples" ⟨"DuelSamples", "perform", "(I)V"⟩ ⟨"DuelSamples", "perform", "(I)V"⟩ ∈ TG := List.mem_filter.mpr ⟨List.mem_of_getElem? (i := 25) (by decide +kernel), rfl⟩
theorem wd_26 : Cond.selects "DuelSamples" ⟨"DuelSamples", "state", "(I)I"⟩ ⟨"DuelSamples", "state", "(I)I"⟩ ∈ TG := List.mem_filter.mpr ⟨List.mem_of_getElem? (i := 26) (by decide +kernel), rfl⟩
theorem wd_27 : Cond.selects "DuelSamplesModel" ⟨"DuelSamplesModel", "bad", "(I)I"⟩ ⟨"DuelSamplesModel", "bad", "(I)I"⟩ ∈ TG := List.mem_filter.mpr ⟨List.mem_of_getElem? (i := 27) (by decide +kernel), rfl⟩
theorem wd_28 : Cond.selects "DuelSamplesModel" ⟨"DuelSamplesModel", "full", "()I"⟩ ⟨"DuelSamplesModel", "full", "()I"⟩ ∈ TG := List.mem_filter.mpr ⟨List.mem_of_getElem? (i := 28) (by decide +kernel), rfl⟩
theorem wd_29 : Cond.selects "DuelSamplesModel" ⟨"DuelSamplesModel", "lays", "(IIIII)V"⟩ ⟨"DuelSamplesModel", "lays", "(IIIII)V"⟩ ∈ TG := List.mem_filter.mpr ⟨List.mem_of_getElem? (i := 29) (by decide +kernel), rfl⟩
theorem wd_30 : Cond.selects "DuelSamplesModel" ⟨"DuelSamplesModel", "isUnit", "(I)Z"⟩ ⟨"DuelSamplesModel", "isUnit", "(I)Z"⟩ ∈ TG := List.mem_filter.mpr ⟨List.mem_of_getElem? (i := 30) (by decide +kernel), rfl⟩
theorem wd_31 : Cond.selects "DuelSamplesModel" ⟨"DuelSamplesModel", "becomes", "(III)I"⟩ ⟨"DuelSamplesModel", "becomes", "(III)I"⟩ ∈ TG := List.mem_filter.mpr ⟨List.mem_of_getElem? (i := 31) (by decide +kernel), rfl⟩
theorem wd_32 : Cond.selects "DuelSamplesModel" ⟨"DuelSamplesModel", "at", "(II)I"⟩ ⟨"DuelSamplesModel", "at", "(II)I"⟩ ∈ TG := List.mem_filter.mpr ⟨List.mem_of_getElem? (i := 32) (by decide +kernel), rfl⟩
theorem wd_33 : Cond.selects "DuelSamplesModel" ⟨"DuelSamplesModel", "goesEmpty", "()V"⟩ ⟨"DuelSamplesModel", "goesEmpty", "()V"⟩ ∈ TG := List.mem_filter.mpr ⟨List.mem_of_getElem? (i := 33) (by decide +kernel), rfl⟩
theorem wd_34 : Cond.selects "DuelSamplesModel" ⟨"DuelSamplesModel", "sumOf", "(I)I"⟩ ⟨"DuelSamplesModel", "sumOf", "(I)I"⟩ ∈ TG := List.mem_filter.mpr ⟨List.mem_of_getElem? (i := 34) (by decide +kernel), rfl⟩
theorem wd_35 : Cond.selects "DuelSamplesModel" ⟨"DuelSamplesModel", "opens", "()I"⟩ ⟨"DuelSamplesModel", "opens", "()I"⟩ ∈ TG := List.mem_filter.mpr ⟨List.mem_of_getElem? (i := 35) (by decide +kernel), rfl⟩
theorem wd_36 : Cond.selects "DuelSamplesModel" ⟨"DuelSamplesModel", "walks", "(I)I"⟩ ⟨"DuelSamplesModel", "walks", "(I)I"⟩ ∈ TG := List.mem_filter.mpr ⟨List.mem_of_getElem? (i := 36) (by decide +kernel), rfl⟩
theorem wd_37 : Cond.selects "DuelSamplesModel" ⟨"DuelSamplesModel", "walked", "(I)I"⟩ ⟨"DuelSamplesModel", "walked", "(I)I"⟩ ∈ TG := List.mem_filter.mpr ⟨List.mem_of_getElem? (i := 37) (by decide +kernel), rfl⟩
theorem wd_38 : Cond.selects "DuelSamplesModel" ⟨"DuelSamplesModel", "begins", "()V"⟩ ⟨"DuelSamplesModel", "begins", "()V"⟩ ∈ TG := List.mem_filter.mpr ⟨List.mem_of_getElem? (i := 38) (by decide +kernel), rfl⟩
theorem wd_39 : Cond.selects "DuelSamplesModel" ⟨"DuelSamplesModel", "finds", "()Z"⟩ ⟨"DuelSamplesModel", "finds", "()Z"⟩ ∈ TG := List.mem_filter.mpr ⟨List.mem_of_getElem? (i := 39) (by decide +kernel), rfl⟩
theorem wd_40 : Cond.selects "DuelSamplesModel" ⟨"DuelSamplesModel", "firstOpen", "(I)I"⟩ ⟨"DuelSamplesModel", "firstOpen", "(I)I"⟩ ∈ TG := List.mem_filter.mpr ⟨List.mem_of_getElem? (i := 40) (by decide +kernel), rfl⟩
theorem wd_41 : Cond.selects "DuelSamplesModel" ⟨"DuelSamplesModel", "isOpen", "(I)Z"⟩ ⟨"DuelSamplesModel", "isOpen", "(I)Z"⟩ ∈ TG := List.mem_filter.mpr ⟨List.mem_of_getElem? (i := 41) (by decide +kernel), rfl⟩
theorem wd_42 : Cond.selects "DuelSamplesModel" ⟨"DuelSamplesModel", "bestOf", "(II)I"⟩ ⟨"DuelSamplesModel", "bestOf", "(II)I"⟩ ∈ TG := List.mem_filter.mpr ⟨List.mem_of_getElem? (i := 42) (by decide +kernel), rfl⟩
theorem wd_43 : Cond.selects "DuelSamplesModel" ⟨"DuelSamplesModel", "nextIn", "(II)I"⟩ ⟨"DuelSamplesModel", "nextIn", "(II)I"⟩ ∈ TG := List.mem_filter.mpr ⟨List.mem_of_getElem? (i := 43) (by decide +kernel), rfl⟩
theorem wd_44 : Cond.selects "DuelSamplesModel" ⟨"DuelSamplesModel", "sizeOfPlay", "()I"⟩ ⟨"DuelSamplesModel", "sizeOfPlay", "()I"⟩ ∈ TG := List.mem_filter.mpr ⟨List.mem_of_getElem? (i := 44) (by decide +kernel), rfl⟩
theorem wd_45 : Cond.selects "DuelSamplesModel" ⟨"DuelSamplesModel", "chancesOfOne", "()I"⟩ ⟨"DuelSamplesModel", "chancesOfOne", "()I"⟩ ∈ TG := List.mem_filter.mpr ⟨List.mem_of_getElem? (i := 45) (by decide +kernel), rfl⟩
theorem wd_46 : Cond.selects "DuelSamplesModel" ⟨"DuelSamplesModel", "gets", "(Z)V"⟩ ⟨"DuelSamplesModel", "gets", "(Z)V"⟩ ∈ TG := List.mem_filter.mpr ⟨List.mem_of_getElem? (i := 46) (by decide +kernel), rfl⟩
theorem wd_47 : Cond.selects "DuelSamplesModel" ⟨"DuelSamplesModel", "sampleNow", "()I"⟩ ⟨"DuelSamplesModel", "sampleNow", "()I"⟩ ∈ TG := List.mem_filter.mpr ⟨List.mem_of_getElem? (i := 47) (by decide +kernel), rfl⟩
theorem wd_48 : Cond.selects "DuelSamplesModel" ⟨"DuelSamplesModel", "wasOf", "(I)I"⟩ ⟨"DuelSamplesModel", "wasOf", "(I)I"⟩ ∈ TG := List.mem_filter.mpr ⟨List.mem_of_getElem? (i := 48) (by decide +kernel), rfl⟩
theorem wd_49 : Cond.selects "DuelSamplesModel" ⟨"DuelSamplesModel", "countedUp", "(II)J"⟩ ⟨"DuelSamplesModel", "countedUp", "(II)J"⟩ ∈ TG := List.mem_filter.mpr ⟨List.mem_of_getElem? (i := 49) (by decide +kernel), rfl⟩
theorem wd_50 : Cond.selects "DuelSamplesModel" ⟨"DuelSamplesModel", "missOf", "(I)J"⟩ ⟨"DuelSamplesModel", "missOf", "(I)J"⟩ ∈ TG := List.mem_filter.mpr ⟨List.mem_of_getElem? (i := 50) (by decide +kernel), rfl⟩
theorem wd_51 : Cond.selects "DuelSamplesModel" ⟨"DuelSamplesModel", "howOften", "(III)I"⟩ ⟨"DuelSamplesModel", "howOften", "(III)I"⟩ ∈ TG := List.mem_filter.mpr ⟨List.mem_of_getElem? (i := 51) (by decide +kernel), rfl⟩
theorem wd_52 : Cond.selects "DuelSamplesModel" ⟨"DuelSamplesModel", "layCan", "()V"⟩ ⟨"DuelSamplesModel", "layCan", "()V"⟩ ∈ TG := List.mem_filter.mpr ⟨List.mem_of_getElem? (i := 52) (by decide +kernel), rfl⟩
theorem wd_53 : Cond.selects "DuelSamplesModel" ⟨"DuelSamplesModel", "goesThrough", "(Z)I"⟩ ⟨"DuelSamplesModel", "goesThrough", "(Z)I"⟩ ∈ TG := List.mem_filter.mpr ⟨List.mem_of_getElem? (i := 53) (by decide +kernel), rfl⟩
theorem wd_54 : Cond.selects "DuelSamplesModel" ⟨"DuelSamplesModel", "skip", "()V"⟩ ⟨"DuelSamplesModel", "skip", "()V"⟩ ∈ TG := List.mem_filter.mpr ⟨List.mem_of_getElem? (i := 54) (by decide +kernel), rfl⟩
theorem wd_55 : Cond.selects "DuelSamplesModel" ⟨"DuelSamplesModel", "reads", "(I)I"⟩ ⟨"DuelSamplesModel", "reads", "(I)I"⟩ ∈ TG := List.mem_filter.mpr ⟨List.mem_of_getElem? (i := 55) (by decide +kernel), rfl⟩
theorem wd_56 : Cond.selects "DuelSamplesModel" ⟨"DuelSamplesModel", "takesWord", "()I"⟩ ⟨"DuelSamplesModel", "takesWord", "()I"⟩ ∈ TG := List.mem_filter.mpr ⟨List.mem_of_getElem? (i := 56) (by decide +kernel), rfl⟩
theorem wd_57 : Cond.selects "DuelSamplesModel" ⟨"DuelSamplesModel", "isByte", "(III)Z"⟩ ⟨"DuelSamplesModel", "isByte", "(III)Z"⟩ ∈ TG := List.mem_filter.mpr ⟨List.mem_of_getElem? (i := 57) (by decide +kernel), rfl⟩
theorem wd_58 : Cond.selects "DuelSamplesModel" ⟨"DuelSamplesModel", "argsOf", "(I)I"⟩ ⟨"DuelSamplesModel", "argsOf", "(I)I"⟩ ∈ TG := List.mem_filter.mpr ⟨List.mem_of_getElem? (i := 58) (by decide +kernel), rfl⟩
theorem wd_59 : Cond.selects "DuelSamplesModel" ⟨"DuelSamplesModel", "mostAt", "(III)I"⟩ ⟨"DuelSamplesModel", "mostAt", "(III)I"⟩ ∈ TG := List.mem_filter.mpr ⟨List.mem_of_getElem? (i := 59) (by decide +kernel), rfl⟩
theorem wd_60 : Cond.selects "DuelSamplesModel" ⟨"DuelSamplesModel", "takesNumber", "(II)I"⟩ ⟨"DuelSamplesModel", "takesNumber", "(II)I"⟩ ∈ TG := List.mem_filter.mpr ⟨List.mem_of_getElem? (i := 60) (by decide +kernel), rfl⟩
theorem wd_61 : Cond.selects "DuelSamplesModel" ⟨"DuelSamplesModel", "tells", "(I)V"⟩ ⟨"DuelSamplesModel", "tells", "(I)V"⟩ ∈ TG := List.mem_filter.mpr ⟨List.mem_of_getElem? (i := 61) (by decide +kernel), rfl⟩
theorem wd_62 : Cond.selects "DuelSamplesModel" ⟨"DuelSamplesModel", "does", "(I)V"⟩ ⟨"DuelSamplesModel", "does", "(I)V"⟩ ∈ TG := List.mem_filter.mpr ⟨List.mem_of_getElem? (i := 62) (by decide +kernel), rfl⟩
theorem wd_63 : Cond.selects "DuelSamplesModel" ⟨"DuelSamplesModel", "tellsWord", "(I)V"⟩ ⟨"DuelSamplesModel", "tellsWord", "(I)V"⟩ ∈ TG := List.mem_filter.mpr ⟨List.mem_of_getElem? (i := 63) (by decide +kernel), rfl⟩
theorem wd_64 : Cond.selects "DuelSamplesModel" ⟨"DuelSamplesModel", "tellsNumber", "(I)V"⟩ ⟨"DuelSamplesModel", "tellsNumber", "(I)V"⟩ ∈ TG := List.mem_filter.mpr ⟨List.mem_of_getElem? (i := 64) (by decide +kernel), rfl⟩
theorem wd_65 : Cond.selects "DuelSamplesModel" ⟨"DuelSamplesModel", "tellsSample", "()V"⟩ ⟨"DuelSamplesModel", "tellsSample", "()V"⟩ ∈ TG := List.mem_filter.mpr ⟨List.mem_of_getElem? (i := 65) (by decide +kernel), rfl⟩
theorem wd_66 : Cond.selects "DuelSamplesModel" ⟨"DuelSamplesModel", "toldOf", "(I)I"⟩ ⟨"DuelSamplesModel", "toldOf", "(I)I"⟩ ∈ TG := List.mem_filter.mpr ⟨List.mem_of_getElem? (i := 66) (by decide +kernel), rfl⟩
theorem wd_67 : Cond.initialized "DuelSamplesLaw" ∈ TG := List.mem_filter.mpr ⟨List.mem_of_getElem? (i := 67) (by decide +kernel), rfl⟩
theorem wd_68 : Cond.initialized "DuelSamples" ∈ TG := List.mem_filter.mpr ⟨List.mem_of_getElem? (i := 68) (by decide +kernel), rfl⟩
theorem wd_69 : Cond.initialized "DuelSamples$Roster" ∈ TG := List.mem_filter.mpr ⟨List.mem_of_getElem? (i := 69) (by decide +kernel), rfl⟩
theorem wd_70 : Cond.initialized "DuelSamples$Course" ∈ TG := List.mem_filter.mpr ⟨List.mem_of_getElem? (i := 70) (by decide +kernel), rfl⟩
theorem wd_71 : Cond.initialized "DuelSamples$Reach" ∈ TG := List.mem_filter.mpr ⟨List.mem_of_getElem? (i := 71) (by decide +kernel), rfl⟩
theorem wd_72 : Cond.initialized "DuelSamples$Script" ∈ TG := List.mem_filter.mpr ⟨List.mem_of_getElem? (i := 72) (by decide +kernel), rfl⟩
theorem wd_73 : Cond.initialized "DuelSamples$Reply" ∈ TG := List.mem_filter.mpr ⟨List.mem_of_getElem? (i := 73) (by decide +kernel), rfl⟩
theorem wd_74 : Cond.initialized "DuelSamplesModel" ∈ TG := List.mem_filter.mpr ⟨List.mem_of_getElem? (i := 74) (by decide +kernel), rfl⟩
theorem wd_75 : Cond.initialized "java/lang/Math" ∈ TG := List.mem_filter.mpr ⟨List.mem_of_getElem? (i := 75) (by decide +kernel), rfl⟩
theorem wd_76 : Cond.initialized "java/lang/Integer" ∈ TG := List.mem_filter.mpr ⟨List.mem_of_getElem? (i := 76) (by decide +kernel), rfl⟩
theorem wd_77 : Cond.initialized "java/util/Arrays" ∈ TG := List.mem_filter.mpr ⟨List.mem_of_getElem? (i := 77) (by decide +kernel), rfl⟩
theorem wd_78 : Cond.initialized "java/lang/Long" ∈ TG := List.mem_filter.mpr ⟨List.mem_of_getElem? (i := 78) (by decide +kernel), rfl⟩
theorem wd_79 : Cond.initialized "java/lang/String" ∈ TG := List.mem_filter.mpr ⟨List.mem_of_getElem? (i := 79) (by decide +kernel), rfl⟩
theorem wd_80 : Cond.initialized "java/lang/StringLatin1" ∈ TG := List.mem_filter.mpr ⟨List.mem_of_getElem? (i := 80) (by decide +kernel), rfl⟩
theorem wd_81 : Cond.initialized "jdk/internal/util/Preconditions" ∈ TG := List.mem_filter.mpr ⟨List.mem_of_getElem? (i := 81) (by decide +kernel), rfl⟩
theorem wd_82 : Cond.initialized "java/lang/StringUTF16" ∈ TG := List.mem_filter.mpr ⟨List.mem_of_getElem? (i := 82) (by decide +kernel), rfl⟩
theorem wd_83 : Cond.classLink "DuelSamplesLaw" 7 "DuelSamples" ∈ TG := List.mem_filter.mpr ⟨List.mem_of_getElem? (i := 83) (by decide +kernel), rfl⟩
theorem wd_84 : Cond.instantiable "DuelSamples" 9 ∈ TG := List.mem_filter.mpr ⟨List.mem_of_getElem? (i := 84) (by decide +kernel), rfl⟩
theorem wd_85 : Cond.methodLink "DuelSamplesLaw" 9 ⟨"DuelSamples", "<init>", "()V"⟩ ∈ TG := List.mem_filter.mpr ⟨List.mem_of_getElem? (i := 85) (by decide +kernel), rfl⟩
theorem wd_86 : Cond.instanceMethod ⟨"DuelSamples", "<init>", "()V"⟩ ∈ TG := List.mem_filter.mpr ⟨List.mem_of_getElem? (i := 86) (by decide +kernel), rfl⟩
theorem wd_87 : Cond.code ⟨"DuelSamples", "<init>", "()V"⟩ prog_1_method_1_code 1 (Option.none : Option Jvm.ClassFile.FieldType) ∈ TG := List.mem_filter.mpr ⟨List.mem_of_getElem? (i := 87) (by decide +kernel), rfl⟩
theorem wd_88 : Cond.methodLink "DuelSamples" 1 ⟨"java/lang/Object", "<init>", "()V"⟩ ∈ TG := List.mem_filter.mpr ⟨List.mem_of_getElem? (i := 88) (by decide +kernel), rfl⟩
theorem wd_89 : Cond.instanceMethod ⟨"java/lang/Object", "<init>", "()V"⟩ ∈ TG := List.mem_filter.mpr ⟨List.mem_of_getElem? (i := 89) (by decide +kernel), rfl⟩
theorem wd_90 : Cond.code ⟨"java/lang/Object", "<init>", "()V"⟩ object_method_1_code 1 (Option.none : Option Jvm.ClassFile.FieldType) ∈ TG := List.mem_filter.mpr ⟨List.mem_of_getElem? (i := 90) (by decide +kernel), rfl⟩
theorem wd_91 : Cond.classLink "DuelSamples" 7 "DuelSamples$Roster" ∈ TG := List.mem_filter.mpr ⟨List.mem_of_getElem? (i := 91) (by decide +kernel), rfl⟩
theorem wd_92 : Cond.instantiable "DuelSamples$Roster" 3 ∈ TG := List.mem_filter.mpr ⟨List.mem_of_getElem? (i := 92) (by decide +kernel), rfl⟩
theorem wn_93 : Cond.methodLinkNest "DuelSamples" 9 ⟨"DuelSamples$Roster", "<init>", "()V"⟩ "DuelSamples" ∈ NW := List.mem_filter.mpr ⟨List.mem_of_getElem? (i := 93) (by decide +kernel), rfl⟩
theorem wd_94 : Cond.instanceMethod ⟨"DuelSamples$Roster", "<init>", "()V"⟩ ∈ TG := List.mem_filter.mpr ⟨List.mem_of_getElem? (i := 94) (by decide +kernel), rfl⟩
theorem wd_95 : Cond.code ⟨"DuelSamples$Roster", "<init>", "()V"⟩ prog_5_method_1_code 1 (Option.none : Option Jvm.ClassFile.FieldType) ∈ TG := List.mem_filter.mpr ⟨List.mem_of_getElem? (i := 95) (by decide +kernel), rfl⟩
theorem wd_96 : Cond.methodLink "DuelSamples$Roster" 3 ⟨"java/lang/Object", "<init>", "()V"⟩ ∈ TG := List.mem_filter.mpr ⟨List.mem_of_getElem? (i := 96) (by decide +kernel), rfl⟩
theorem wd_97 : Cond.classLink "DuelSamples$Roster" 9 "[[I" ∈ TG := List.mem_filter.mpr ⟨List.mem_of_getElem? (i := 97) (by decide +kernel), rfl⟩
theorem wd_99 : Cond.fieldLink "DuelSamples$Roster" 11 "DuelSamples$Roster" "facts" "[[I" ∈ TG := List.mem_filter.mpr ⟨List.mem_of_getElem? (i := 99) (by decide +kernel), rfl⟩
theorem wn_100 : Cond.fieldLinkNest "DuelSamples" 55 "DuelSamples$Roster" "count" "I" "DuelSamples" ∈ NW := List.mem_filter.mpr ⟨List.mem_of_getElem? (i := 100) (by decide +kernel), rfl⟩
theorem wd_101 : Cond.fieldLink "DuelSamples$Roster" 20 "DuelSamples$Roster" "count" "I" ∈ TG := List.mem_filter.mpr ⟨List.mem_of_getElem? (i := 101) (by decide +kernel), rfl⟩
theorem wn_102 : Cond.fieldLinkNest "DuelSamples$Reach" 22 "DuelSamples$Roster" "changes" "I" "DuelSamples" ∈ NW := List.mem_filter.mpr ⟨List.mem_of_getElem? (i := 102) (by decide +kernel), rfl⟩
theorem wd_103 : Cond.fieldLink "DuelSamples$Roster" 28 "DuelSamples$Roster" "changes" "I" ∈ TG := List.mem_filter.mpr ⟨List.mem_of_getElem? (i := 103) (by decide +kernel), rfl⟩
theorem wd_111 : Cond.arrayClass .int ∈ TG := List.mem_filter.mpr ⟨List.mem_of_getElem? (i := 111) (by decide +kernel), rfl⟩
theorem wd_112 : Cond.classLink "DuelSamples" 16 "DuelSamples$Course" ∈ TG := List.mem_filter.mpr ⟨List.mem_of_getElem? (i := 112) (by decide +kernel), rfl⟩
theorem wd_113 : Cond.instantiable "DuelSamples$Course" 10 ∈ TG := List.mem_filter.mpr ⟨List.mem_of_getElem? (i := 113) (by decide +kernel), rfl⟩
theorem wn_114 : Cond.methodLinkNest "DuelSamples" 18 ⟨"DuelSamples$Course", "<init>", "()V"⟩ "DuelSamples" ∈ NW := List.mem_filter.mpr ⟨List.mem_of_getElem? (i := 114) (by decide +kernel), rfl⟩
theorem wd_115 : Cond.instanceMethod ⟨"DuelSamples$Course", "<init>", "()V"⟩ ∈ TG := List.mem_filter.mpr ⟨List.mem_of_getElem? (i := 115) (by decide +kernel), rfl⟩
theorem wd_116 : Cond.code ⟨"DuelSamples$Course", "<init>", "()V"⟩ prog_2_method_1_code 1 (Option.none : Option Jvm.ClassFile.FieldType) ∈ TG := List.mem_filter.mpr ⟨List.mem_of_getElem? (i := 116) (by decide +kernel), rfl⟩
theorem wd_117 : Cond.methodLink "DuelSamples$Course" 3 ⟨"java/lang/Object", "<init>", "()V"⟩ ∈ TG := List.mem_filter.mpr ⟨List.mem_of_getElem? (i := 117) (by decide +kernel), rfl⟩
theorem wd_118 : Cond.fieldLink "DuelSamples$Course" 9 "DuelSamples$Course" "left" "[I" ∈ TG := List.mem_filter.mpr ⟨List.mem_of_getElem? (i := 118) (by decide +kernel), rfl⟩
theorem wd_119 : Cond.fieldLink "DuelSamples$Course" 15 "DuelSamples$Course" "firsts" "[I" ∈ TG := List.mem_filter.mpr ⟨List.mem_of_getElem? (i := 119) (by decide +kernel), rfl⟩
theorem wd_120 : Cond.fieldLink "DuelSamples$Course" 18 "DuelSamples$Course" "seconds" "[I" ∈ TG := List.mem_filter.mpr ⟨List.mem_of_getElem? (i := 120) (by decide +kernel), rfl⟩
theorem wd_121 : Cond.fieldLink "DuelSamples$Course" 21 "DuelSamples$Course" "winners" "[I" ∈ TG := List.mem_filter.mpr ⟨List.mem_of_getElem? (i := 121) (by decide +kernel), rfl⟩
theorem wd_122 : Cond.fieldLink "DuelSamples$Course" 58 "DuelSamples$Course" "sample" "I" ∈ TG := List.mem_filter.mpr ⟨List.mem_of_getElem? (i := 122) (by decide +kernel), rfl⟩
theorem wn_123 : Cond.fieldLinkNest "DuelSamples" 121 "DuelSamples$Course" "sample" "I" "DuelSamples" ∈ NW := List.mem_filter.mpr ⟨List.mem_of_getElem? (i := 123) (by decide +kernel), rfl⟩
theorem wd_124 : Cond.fieldLink "DuelSamples$Course" 62 "DuelSamples$Course" "plays" "I" ∈ TG := List.mem_filter.mpr ⟨List.mem_of_getElem? (i := 124) (by decide +kernel), rfl⟩
theorem wd_125 : Cond.fieldLink "DuelSamples$Course" 65 "DuelSamples$Course" "small" "I" ∈ TG := List.mem_filter.mpr ⟨List.mem_of_getElem? (i := 125) (by decide +kernel), rfl⟩
theorem wd_126 : Cond.fieldLink "DuelSamples$Course" 68 "DuelSamples$Course" "large" "I" ∈ TG := List.mem_filter.mpr ⟨List.mem_of_getElem? (i := 126) (by decide +kernel), rfl⟩
theorem wn_127 : Cond.fieldLinkNest "DuelSamples$Reach" 55 "DuelSamples$Course" "u" "I" "DuelSamples" ∈ NW := List.mem_filter.mpr ⟨List.mem_of_getElem? (i := 127) (by decide +kernel), rfl⟩
theorem wd_128 : Cond.fieldLink "DuelSamples$Course" 85 "DuelSamples$Course" "u" "I" ∈ TG := List.mem_filter.mpr ⟨List.mem_of_getElem? (i := 128) (by decide +kernel), rfl⟩
theorem wn_129 : Cond.fieldLinkNest "DuelSamples$Reach" 58 "DuelSamples$Course" "v" "I" "DuelSamples" ∈ NW := List.mem_filter.mpr ⟨List.mem_of_getElem? (i := 129) (by decide +kernel), rfl⟩
theorem wd_130 : Cond.fieldLink "DuelSamples$Course" 88 "DuelSamples$Course" "v" "I" ∈ TG := List.mem_filter.mpr ⟨List.mem_of_getElem? (i := 130) (by decide +kernel), rfl⟩
theorem wd_152 : Cond.classLink "DuelSamples" 26 "DuelSamples$Reach" ∈ TG := List.mem_filter.mpr ⟨List.mem_of_getElem? (i := 152) (by decide +kernel), rfl⟩
theorem wd_153 : Cond.instantiable "DuelSamples$Reach" 3 ∈ TG := List.mem_filter.mpr ⟨List.mem_of_getElem? (i := 153) (by decide +kernel), rfl⟩
theorem wn_154 : Cond.methodLinkNest "DuelSamples" 28 ⟨"DuelSamples$Reach", "<init>", "()V"⟩ "DuelSamples" ∈ NW := List.mem_filter.mpr ⟨List.mem_of_getElem? (i := 154) (by decide +kernel), rfl⟩
theorem wd_155 : Cond.instanceMethod ⟨"DuelSamples$Reach", "<init>", "()V"⟩ ∈ TG := List.mem_filter.mpr ⟨List.mem_of_getElem? (i := 155) (by decide +kernel), rfl⟩
theorem wd_156 : Cond.code ⟨"DuelSamples$Reach", "<init>", "()V"⟩ prog_3_method_1_code 1 (Option.none : Option Jvm.ClassFile.FieldType) ∈ TG := List.mem_filter.mpr ⟨List.mem_of_getElem? (i := 156) (by decide +kernel), rfl⟩
theorem wd_157 : Cond.methodLink "DuelSamples$Reach" 3 ⟨"java/lang/Object", "<init>", "()V"⟩ ∈ TG := List.mem_filter.mpr ⟨List.mem_of_getElem? (i := 157) (by decide +kernel), rfl⟩
theorem wd_158 : Cond.fieldLink "DuelSamples$Reach" 11 "DuelSamples$Reach" "seen" "[J" ∈ TG := List.mem_filter.mpr ⟨List.mem_of_getElem? (i := 158) (by decide +kernel), rfl⟩
theorem wd_159 : Cond.fieldLink "DuelSamples$Reach" 15 "DuelSamples$Reach" "atChanges" "I" ∈ TG := List.mem_filter.mpr ⟨List.mem_of_getElem? (i := 159) (by decide +kernel), rfl⟩
theorem wd_160 : Cond.fieldLink "DuelSamples$Reach" 19 "DuelSamples$Reach" "atMethod" "I" ∈ TG := List.mem_filter.mpr ⟨List.mem_of_getElem? (i := 160) (by decide +kernel), rfl⟩
theorem wd_168 : Cond.arrayClass .long ∈ TG := List.mem_filter.mpr ⟨List.mem_of_getElem? (i := 168) (by decide +kernel), rfl⟩
theorem wd_169 : Cond.classLink "DuelSamples" 33 "DuelSamples$Script" ∈ TG := List.mem_filter.mpr ⟨List.mem_of_getElem? (i := 169) (by decide +kernel), rfl⟩
theorem wd_170 : Cond.instantiable "DuelSamples$Script" 7 ∈ TG := List.mem_filter.mpr ⟨List.mem_of_getElem? (i := 170) (by decide +kernel), rfl⟩
theorem wn_171 : Cond.methodLinkNest "DuelSamples" 35 ⟨"DuelSamples$Script", "<init>", "()V"⟩ "DuelSamples" ∈ NW := List.mem_filter.mpr ⟨List.mem_of_getElem? (i := 171) (by decide +kernel), rfl⟩
theorem wd_172 : Cond.instanceMethod ⟨"DuelSamples$Script", "<init>", "()V"⟩ ∈ TG := List.mem_filter.mpr ⟨List.mem_of_getElem? (i := 172) (by decide +kernel), rfl⟩
theorem wd_173 : Cond.code ⟨"DuelSamples$Script", "<init>", "()V"⟩ prog_6_method_1_code 1 (Option.none : Option Jvm.ClassFile.FieldType) ∈ TG := List.mem_filter.mpr ⟨List.mem_of_getElem? (i := 173) (by decide +kernel), rfl⟩
theorem wd_174 : Cond.methodLink "DuelSamples$Script" 5 ⟨"java/lang/Object", "<init>", "()V"⟩ ∈ TG := List.mem_filter.mpr ⟨List.mem_of_getElem? (i := 174) (by decide +kernel), rfl⟩
theorem wd_175 : Cond.fieldLink "DuelSamples$Script" 11 "DuelSamples$Script" "text" "[B" ∈ TG := List.mem_filter.mpr ⟨List.mem_of_getElem? (i := 175) (by decide +kernel), rfl⟩
theorem wd_176 : Cond.fieldLink "DuelSamples$Script" 15 "DuelSamples$Script" "verbs" "[I" ∈ TG := List.mem_filter.mpr ⟨List.mem_of_getElem? (i := 176) (by decide +kernel), rfl⟩
theorem wd_177 : Cond.fieldLink "DuelSamples$Script" 19 "DuelSamples$Script" "numbers" "[I" ∈ TG := List.mem_filter.mpr ⟨List.mem_of_getElem? (i := 177) (by decide +kernel), rfl⟩
theorem wd_178 : Cond.fieldLink "DuelSamples$Script" 50 "DuelSamples$Script" "length" "I" ∈ TG := List.mem_filter.mpr ⟨List.mem_of_getElem? (i := 178) (by decide +kernel), rfl⟩
theorem wn_179 : Cond.fieldLinkNest "DuelSamples" 187 "DuelSamples$Script" "length" "I" "DuelSamples" ∈ NW := List.mem_filter.mpr ⟨List.mem_of_getElem? (i := 179) (by decide +kernel), rfl⟩
theorem wd_180 : Cond.fieldLink "DuelSamples$Script" 54 "DuelSamples$Script" "sentences" "I" ∈ TG := List.mem_filter.mpr ⟨List.mem_of_getElem? (i := 180) (by decide +kernel), rfl⟩
theorem wn_181 : Cond.fieldLinkNest "DuelSamples" 196 "DuelSamples$Script" "sentences" "I" "DuelSamples" ∈ NW := List.mem_filter.mpr ⟨List.mem_of_getElem? (i := 181) (by decide +kernel), rfl⟩
theorem wd_182 : Cond.fieldLink "DuelSamples$Script" 60 "DuelSamples$Script" "at" "I" ∈ TG := List.mem_filter.mpr ⟨List.mem_of_getElem? (i := 182) (by decide +kernel), rfl⟩
theorem wd_183 : Cond.fieldLink "DuelSamples$Script" 57 "DuelSamples$Script" "units" "I" ∈ TG := List.mem_filter.mpr ⟨List.mem_of_getElem? (i := 183) (by decide +kernel), rfl⟩
theorem wd_199 : Cond.arrayClass .byte ∈ TG := List.mem_filter.mpr ⟨List.mem_of_getElem? (i := 199) (by decide +kernel), rfl⟩
theorem wd_200 : Cond.classLink "DuelSamples" 40 "DuelSamples$Reply" ∈ TG := List.mem_filter.mpr ⟨List.mem_of_getElem? (i := 200) (by decide +kernel), rfl⟩
theorem wd_201 : Cond.instantiable "DuelSamples$Reply" 2 ∈ TG := List.mem_filter.mpr ⟨List.mem_of_getElem? (i := 201) (by decide +kernel), rfl⟩
theorem wn_202 : Cond.methodLinkNest "DuelSamples" 42 ⟨"DuelSamples$Reply", "<init>", "()V"⟩ "DuelSamples" ∈ NW := List.mem_filter.mpr ⟨List.mem_of_getElem? (i := 202) (by decide +kernel), rfl⟩
theorem wd_203 : Cond.instanceMethod ⟨"DuelSamples$Reply", "<init>", "()V"⟩ ∈ TG := List.mem_filter.mpr ⟨List.mem_of_getElem? (i := 203) (by decide +kernel), rfl⟩
theorem wd_204 : Cond.code ⟨"DuelSamples$Reply", "<init>", "()V"⟩ prog_4_method_1_code 1 (Option.none : Option Jvm.ClassFile.FieldType) ∈ TG := List.mem_filter.mpr ⟨List.mem_of_getElem? (i := 204) (by decide +kernel), rfl⟩
theorem wd_205 : Cond.methodLink "DuelSamples$Reply" 3 ⟨"java/lang/Object", "<init>", "()V"⟩ ∈ TG := List.mem_filter.mpr ⟨List.mem_of_getElem? (i := 205) (by decide +kernel), rfl⟩
theorem wd_206 : Cond.fieldLink "DuelSamples$Reply" 11 "DuelSamples$Reply" "signs" "[B" ∈ TG := List.mem_filter.mpr ⟨List.mem_of_getElem? (i := 206) (by decide +kernel), rfl⟩
theorem wd_207 : Cond.fieldLink "DuelSamples$Reply" 15 "DuelSamples$Reply" "length" "I" ∈ TG := List.mem_filter.mpr ⟨List.mem_of_getElem? (i := 207) (by decide +kernel), rfl⟩
theorem wn_208 : Cond.fieldLinkNest "DuelSamples" 195 "DuelSamples$Reply" "length" "I" "DuelSamples" ∈ NW := List.mem_filter.mpr ⟨List.mem_of_getElem? (i := 208) (by decide +kernel), rfl⟩
theorem wd_214 : Cond.fieldLink "DuelSamples" 10 "DuelSamples" "roster" "LDuelSamples$Roster;" ∈ TG := List.mem_filter.mpr ⟨List.mem_of_getElem? (i := 214) (by decide +kernel), rfl⟩
theorem wd_215 : Cond.fieldLink "DuelSamples" 19 "DuelSamples" "last" "LDuelSamples$Course;" ∈ TG := List.mem_filter.mpr ⟨List.mem_of_getElem? (i := 215) (by decide +kernel), rfl⟩
theorem wd_216 : Cond.fieldLink "DuelSamples" 23 "DuelSamples" "trial" "LDuelSamples$Course;" ∈ TG := List.mem_filter.mpr ⟨List.mem_of_getElem? (i := 216) (by decide +kernel), rfl⟩
theorem wd_217 : Cond.fieldLink "DuelSamples" 29 "DuelSamples" "reach" "LDuelSamples$Reach;" ∈ TG := List.mem_filter.mpr ⟨List.mem_of_getElem? (i := 217) (by decide +kernel), rfl⟩
theorem wd_218 : Cond.fieldLink "DuelSamples" 36 "DuelSamples" "script" "LDuelSamples$Script;" ∈ TG := List.mem_filter.mpr ⟨List.mem_of_getElem? (i := 218) (by decide +kernel), rfl⟩
theorem wd_219 : Cond.fieldLink "DuelSamples" 43 "DuelSamples" "reply" "LDuelSamples$Reply;" ∈ TG := List.mem_filter.mpr ⟨List.mem_of_getElem? (i := 219) (by decide +kernel), rfl⟩
theorem wd_220 : Cond.fieldLink "DuelSamples" 114 "DuelSamples" "method" "I" ∈ TG := List.mem_filter.mpr ⟨List.mem_of_getElem? (i := 220) (by decide +kernel), rfl⟩
theorem wd_221 : Cond.fieldLink "DuelSamples" 216 "DuelSamples" "refusedBad" "I" ∈ TG := List.mem_filter.mpr ⟨List.mem_of_getElem? (i := 221) (by decide +kernel), rfl⟩
theorem wd_222 : Cond.fieldLink "DuelSamples" 219 "DuelSamples" "refusedFull" "I" ∈ TG := List.mem_filter.mpr ⟨List.mem_of_getElem? (i := 222) (by decide +kernel), rfl⟩
theorem wd_242 : Cond.methodLink "DuelSamplesLaw" 13 ⟨"DuelSamples", "unit", "(IIIII)I"⟩ ∈ TG := List.mem_filter.mpr ⟨List.mem_of_getElem? (i := 242) (by decide +kernel), rfl⟩
theorem wd_243 : Cond.instanceMethod ⟨"DuelSamples", "unit", "(IIIII)I"⟩ ∈ TG := List.mem_filter.mpr ⟨List.mem_of_getElem? (i := 243) (by decide +kernel), rfl⟩
theorem wd_244 : Cond.selects "DuelSamples" ⟨"DuelSamples", "unit", "(IIIII)I"⟩ ⟨"DuelSamples", "unit", "(IIIII)I"⟩ ∈ TG := List.mem_filter.mpr ⟨List.mem_of_getElem? (i := 244) (by decide +kernel), rfl⟩
theorem wd_245 : Cond.code ⟨"DuelSamples", "unit", "(IIIII)I"⟩ prog_1_method_2_code 7 (Option.some Jvm.ClassFile.FieldType.int) ∈ TG := List.mem_filter.mpr ⟨List.mem_of_getElem? (i := 245) (by decide +kernel), rfl⟩
theorem wd_246 : Cond.methodLink "DuelSamples" 47 ⟨"DuelSamples$Roster", "fits", "(II)Z"⟩ ∈ TG := List.mem_filter.mpr ⟨List.mem_of_getElem? (i := 246) (by decide +kernel), rfl⟩
theorem wd_247 : Cond.static ⟨"DuelSamples$Roster", "fits", "(II)Z"⟩ ∈ TG := List.mem_filter.mpr ⟨List.mem_of_getElem? (i := 247) (by decide +kernel), rfl⟩
theorem wd_248 : Cond.code ⟨"DuelSamples$Roster", "fits", "(II)Z"⟩ prog_5_method_2_code 2 (Option.some Jvm.ClassFile.FieldType.boolean) ∈ TG := List.mem_filter.mpr ⟨List.mem_of_getElem? (i := 248) (by decide +kernel), rfl⟩
theorem wd_249 : Cond.fieldLink "DuelSamples$Roster" 16 "DuelSamples$Roster" "MOST" "[I" ∈ TG := List.mem_filter.mpr ⟨List.mem_of_getElem? (i := 249) (by decide +kernel), rfl⟩
theorem wd_251 : Cond.methodLink "DuelSamples" 51 ⟨"DuelSamples", "refuse", "(I)I"⟩ ∈ TG := List.mem_filter.mpr ⟨List.mem_of_getElem? (i := 251) (by decide +kernel), rfl⟩
theorem wd_253 : Cond.instanceMethod ⟨"DuelSamples", "refuse", "(I)I"⟩ ∈ TG := List.mem_filter.mpr ⟨List.mem_of_getElem? (i := 253) (by decide +kernel), rfl⟩
theorem wd_254 : Cond.code ⟨"DuelSamples", "refuse", "(I)I"⟩ prog_1_method_28_code 2 (Option.some Jvm.ClassFile.FieldType.int) ∈ TG := List.mem_filter.mpr ⟨List.mem_of_getElem? (i := 254) (by decide +kernel), rfl⟩
theorem wd_255 : Cond.methodLink "DuelSamples" 59 ⟨"DuelSamples$Roster", "append", "(IIIII)I"⟩ ∈ TG := List.mem_filter.mpr ⟨List.mem_of_getElem? (i := 255) (by decide +kernel), rfl⟩
theorem wd_256 : Cond.instanceMethod ⟨"DuelSamples$Roster", "append", "(IIIII)I"⟩ ∈ TG := List.mem_filter.mpr ⟨List.mem_of_getElem? (i := 256) (by decide +kernel), rfl⟩
theorem wd_257 : Cond.selects "DuelSamples$Roster" ⟨"DuelSamples$Roster", "append", "(IIIII)I"⟩ ⟨"DuelSamples$Roster", "append", "(IIIII)I"⟩ ∈ TG := List.mem_filter.mpr ⟨List.mem_of_getElem? (i := 257) (by decide +kernel), rfl⟩
theorem wd_258 : Cond.code ⟨"DuelSamples$Roster", "append", "(IIIII)I"⟩ prog_5_method_6_code 6 (Option.some Jvm.ClassFile.FieldType.int) ∈ TG := List.mem_filter.mpr ⟨List.mem_of_getElem? (i := 258) (by decide +kernel), rfl⟩
theorem wd_259 : Cond.methodLink "DuelSamplesLaw" 18 ⟨"DuelSamples", "sets", "(III)I"⟩ ∈ TG := List.mem_filter.mpr ⟨List.mem_of_getElem? (i := 259) (by decide +kernel), rfl⟩
theorem wd_260 : Cond.instanceMethod ⟨"DuelSamples", "sets", "(III)I"⟩ ∈ TG := List.mem_filter.mpr ⟨List.mem_of_getElem? (i := 260) (by decide +kernel), rfl⟩
theorem wd_261 : Cond.selects "DuelSamples" ⟨"DuelSamples", "sets", "(III)I"⟩ ⟨"DuelSamples", "sets", "(III)I"⟩ ∈ TG := List.mem_filter.mpr ⟨List.mem_of_getElem? (i := 261) (by decide +kernel), rfl⟩
theorem wd_262 : Cond.code ⟨"DuelSamples", "sets", "(III)I"⟩ prog_1_method_3_code 4 (Option.some Jvm.ClassFile.FieldType.int) ∈ TG := List.mem_filter.mpr ⟨List.mem_of_getElem? (i := 262) (by decide +kernel), rfl⟩
theorem wd_263 : Cond.methodLink "DuelSamples" 63 ⟨"DuelSamples$Roster", "has", "(I)Z"⟩ ∈ TG := List.mem_filter.mpr ⟨List.mem_of_getElem? (i := 263) (by decide +kernel), rfl⟩
theorem wd_264 : Cond.instanceMethod ⟨"DuelSamples$Roster", "has", "(I)Z"⟩ ∈ TG := List.mem_filter.mpr ⟨List.mem_of_getElem? (i := 264) (by decide +kernel), rfl⟩
theorem wd_265 : Cond.selects "DuelSamples$Roster" ⟨"DuelSamples$Roster", "has", "(I)Z"⟩ ⟨"DuelSamples$Roster", "has", "(I)Z"⟩ ∈ TG := List.mem_filter.mpr ⟨List.mem_of_getElem? (i := 265) (by decide +kernel), rfl⟩
theorem wd_266 : Cond.code ⟨"DuelSamples$Roster", "has", "(I)Z"⟩ prog_5_method_3_code 2 (Option.some Jvm.ClassFile.FieldType.boolean) ∈ TG := List.mem_filter.mpr ⟨List.mem_of_getElem? (i := 266) (by decide +kernel), rfl⟩
theorem wd_267 : Cond.methodLink "DuelSamples" 67 ⟨"DuelSamples$Roster", "change", "(III)I"⟩ ∈ TG := List.mem_filter.mpr ⟨List.mem_of_getElem? (i := 267) (by decide +kernel), rfl⟩
theorem wd_268 : Cond.instanceMethod ⟨"DuelSamples$Roster", "change", "(III)I"⟩ ∈ TG := List.mem_filter.mpr ⟨List.mem_of_getElem? (i := 268) (by decide +kernel), rfl⟩
theorem wd_269 : Cond.selects "DuelSamples$Roster" ⟨"DuelSamples$Roster", "change", "(III)I"⟩ ⟨"DuelSamples$Roster", "change", "(III)I"⟩ ∈ TG := List.mem_filter.mpr ⟨List.mem_of_getElem? (i := 269) (by decide +kernel), rfl⟩
theorem wd_270 : Cond.code ⟨"DuelSamples$Roster", "change", "(III)I"⟩ prog_5_method_5_code 5 (Option.some Jvm.ClassFile.FieldType.int) ∈ TG := List.mem_filter.mpr ⟨List.mem_of_getElem? (i := 270) (by decide +kernel), rfl⟩
theorem wd_271 : Cond.methodLink "DuelSamples$Roster" 24 ⟨"DuelSamples$Roster", "has", "(I)Z"⟩ ∈ TG := List.mem_filter.mpr ⟨List.mem_of_getElem? (i := 271) (by decide +kernel), rfl⟩
theorem wd_272 : Cond.methodLink "DuelSamplesLaw" 23 ⟨"DuelSamples", "empties", "()I"⟩ ∈ TG := List.mem_filter.mpr ⟨List.mem_of_getElem? (i := 272) (by decide +kernel), rfl⟩
theorem wd_273 : Cond.instanceMethod ⟨"DuelSamples", "empties", "()I"⟩ ∈ TG := List.mem_filter.mpr ⟨List.mem_of_getElem? (i := 273) (by decide +kernel), rfl⟩
theorem wd_274 : Cond.selects "DuelSamples" ⟨"DuelSamples", "empties", "()I"⟩ ⟨"DuelSamples", "empties", "()I"⟩ ∈ TG := List.mem_filter.mpr ⟨List.mem_of_getElem? (i := 274) (by decide +kernel), rfl⟩
theorem wd_275 : Cond.code ⟨"DuelSamples", "empties", "()I"⟩ prog_1_method_4_code 2 (Option.some Jvm.ClassFile.FieldType.int) ∈ TG := List.mem_filter.mpr ⟨List.mem_of_getElem? (i := 275) (by decide +kernel), rfl⟩
theorem wd_276 : Cond.methodLink "DuelSamples" 71 ⟨"DuelSamples$Roster", "removeAll", "()V"⟩ ∈ TG := List.mem_filter.mpr ⟨List.mem_of_getElem? (i := 276) (by decide +kernel), rfl⟩
theorem wd_277 : Cond.instanceMethod ⟨"DuelSamples$Roster", "removeAll", "()V"⟩ ∈ TG := List.mem_filter.mpr ⟨List.mem_of_getElem? (i := 277) (by decide +kernel), rfl⟩
theorem wd_278 : Cond.selects "DuelSamples$Roster" ⟨"DuelSamples$Roster", "removeAll", "()V"⟩ ⟨"DuelSamples$Roster", "removeAll", "()V"⟩ ∈ TG := List.mem_filter.mpr ⟨List.mem_of_getElem? (i := 278) (by decide +kernel), rfl⟩
theorem wd_279 : Cond.code ⟨"DuelSamples$Roster", "removeAll", "()V"⟩ prog_5_method_7_code 1 (Option.none : Option Jvm.ClassFile.FieldType) ∈ TG := List.mem_filter.mpr ⟨List.mem_of_getElem? (i := 279) (by decide +kernel), rfl⟩
theorem wd_280 : Cond.methodLink "DuelSamples" 74 ⟨"DuelSamples$Course", "forget", "()V"⟩ ∈ TG := List.mem_filter.mpr ⟨List.mem_of_getElem? (i := 280) (by decide +kernel), rfl⟩
theorem wd_281 : Cond.instanceMethod ⟨"DuelSamples$Course", "forget", "()V"⟩ ∈ TG := List.mem_filter.mpr ⟨List.mem_of_getElem? (i := 281) (by decide +kernel), rfl⟩
theorem wd_282 : Cond.selects "DuelSamples$Course" ⟨"DuelSamples$Course", "forget", "()V"⟩ ⟨"DuelSamples$Course", "forget", "()V"⟩ ∈ TG := List.mem_filter.mpr ⟨List.mem_of_getElem? (i := 282) (by decide +kernel), rfl⟩
theorem wd_283 : Cond.code ⟨"DuelSamples$Course", "forget", "()V"⟩ prog_2_method_3_code 1 (Option.none : Option Jvm.ClassFile.FieldType) ∈ TG := List.mem_filter.mpr ⟨List.mem_of_getElem? (i := 283) (by decide +kernel), rfl⟩
theorem wd_284 : Cond.methodLink "DuelSamplesLaw" 28 ⟨"DuelSamples", "draw", "(II)I"⟩ ∈ TG := List.mem_filter.mpr ⟨List.mem_of_getElem? (i := 284) (by decide +kernel), rfl⟩
theorem wd_285 : Cond.instanceMethod ⟨"DuelSamples", "draw", "(II)I"⟩ ∈ TG := List.mem_filter.mpr ⟨List.mem_of_getElem? (i := 285) (by decide +kernel), rfl⟩
theorem wd_286 : Cond.selects "DuelSamples" ⟨"DuelSamples", "draw", "(II)I"⟩ ⟨"DuelSamples", "draw", "(II)I"⟩ ∈ TG := List.mem_filter.mpr ⟨List.mem_of_getElem? (i := 286) (by decide +kernel), rfl⟩
theorem wd_287 : Cond.code ⟨"DuelSamples", "draw", "(II)I"⟩ prog_1_method_5_code 6 (Option.some Jvm.ClassFile.FieldType.int) ∈ TG := List.mem_filter.mpr ⟨List.mem_of_getElem? (i := 287) (by decide +kernel), rfl⟩
theorem wd_288 : Cond.methodLink "DuelSamples" 77 ⟨"DuelSamples", "isSeed", "(I)Z"⟩ ∈ TG := List.mem_filter.mpr ⟨List.mem_of_getElem? (i := 288) (by decide +kernel), rfl⟩
theorem wd_289 : Cond.static ⟨"DuelSamples", "isSeed", "(I)Z"⟩ ∈ TG := List.mem_filter.mpr ⟨List.mem_of_getElem? (i := 289) (by decide +kernel), rfl⟩
theorem wd_290 : Cond.code ⟨"DuelSamples", "isSeed", "(I)Z"⟩ prog_1_method_29_code 1 (Option.some Jvm.ClassFile.FieldType.boolean) ∈ TG := List.mem_filter.mpr ⟨List.mem_of_getElem? (i := 290) (by decide +kernel), rfl⟩
theorem wd_291 : Cond.constant "DuelSamples" 222 (999999) ∈ TG := List.mem_filter.mpr ⟨List.mem_of_getElem? (i := 291) (by decide +kernel), rfl⟩
theorem wd_292 : Cond.methodLink "DuelSamples" 80 ⟨"DuelSamples", "nextX", "(J)J"⟩ ∈ TG := List.mem_filter.mpr ⟨List.mem_of_getElem? (i := 292) (by decide +kernel), rfl⟩
theorem wd_293 : Cond.static ⟨"DuelSamples", "nextX", "(J)J"⟩ ∈ TG := List.mem_filter.mpr ⟨List.mem_of_getElem? (i := 293) (by decide +kernel), rfl⟩
theorem wd_294 : Cond.code ⟨"DuelSamples", "nextX", "(J)J"⟩ prog_1_method_31_code 2 (Option.some Jvm.ClassFile.FieldType.long) ∈ TG := List.mem_filter.mpr ⟨List.mem_of_getElem? (i := 294) (by decide +kernel), rfl⟩
theorem wd_295 : Cond.constantLong "DuelSamples" 224 (1103515245) ∈ TG := List.mem_filter.mpr ⟨List.mem_of_getElem? (i := 295) (by decide +kernel), rfl⟩
theorem wd_296 : Cond.constantLong "DuelSamples" 226 (12345) ∈ TG := List.mem_filter.mpr ⟨List.mem_of_getElem? (i := 296) (by decide +kernel), rfl⟩
theorem wd_297 : Cond.constantLong "DuelSamples" 228 (2147483648) ∈ TG := List.mem_filter.mpr ⟨List.mem_of_getElem? (i := 297) (by decide +kernel), rfl⟩
theorem wd_298 : Cond.constantLong "DuelSamples" 84 (65536) ∈ TG := List.mem_filter.mpr ⟨List.mem_of_getElem? (i := 298) (by decide +kernel), rfl⟩
theorem wd_299 : Cond.constantLong "DuelSamples" 86 (13) ∈ TG := List.mem_filter.mpr ⟨List.mem_of_getElem? (i := 299) (by decide +kernel), rfl⟩
theorem wd_300 : Cond.constantLong "DuelSamples" 88 (1024) ∈ TG := List.mem_filter.mpr ⟨List.mem_of_getElem? (i := 300) (by decide +kernel), rfl⟩
theorem wd_301 : Cond.constantLong "DuelSamples" 90 (100) ∈ TG := List.mem_filter.mpr ⟨List.mem_of_getElem? (i := 301) (by decide +kernel), rfl⟩
theorem wd_302 : Cond.constantLong "DuelSamples" 92 (32768) ∈ TG := List.mem_filter.mpr ⟨List.mem_of_getElem? (i := 302) (by decide +kernel), rfl⟩
theorem wd_303 : Cond.constantLong "DuelSamples" 94 (4) ∈ TG := List.mem_filter.mpr ⟨List.mem_of_getElem? (i := 303) (by decide +kernel), rfl⟩
theorem wd_304 : Cond.constantLong "DuelSamples" 96 (4096) ∈ TG := List.mem_filter.mpr ⟨List.mem_of_getElem? (i := 304) (by decide +kernel), rfl⟩
theorem wd_305 : Cond.constantLong "DuelSamples" 98 (512) ∈ TG := List.mem_filter.mpr ⟨List.mem_of_getElem? (i := 305) (by decide +kernel), rfl⟩
theorem wd_306 : Cond.methodLink "DuelSamples" 100 ⟨"DuelSamples$Roster", "sum", "(I)I"⟩ ∈ TG := List.mem_filter.mpr ⟨List.mem_of_getElem? (i := 306) (by decide +kernel), rfl⟩
theorem wd_307 : Cond.instanceMethod ⟨"DuelSamples$Roster", "sum", "(I)I"⟩ ∈ TG := List.mem_filter.mpr ⟨List.mem_of_getElem? (i := 307) (by decide +kernel), rfl⟩
theorem wd_308 : Cond.selects "DuelSamples$Roster" ⟨"DuelSamples$Roster", "sum", "(I)I"⟩ ⟨"DuelSamples$Roster", "sum", "(I)I"⟩ ∈ TG := List.mem_filter.mpr ⟨List.mem_of_getElem? (i := 308) (by decide +kernel), rfl⟩
theorem wd_309 : Cond.code ⟨"DuelSamples$Roster", "sum", "(I)I"⟩ prog_5_method_9_code 4 (Option.some Jvm.ClassFile.FieldType.int) ∈ TG := List.mem_filter.mpr ⟨List.mem_of_getElem? (i := 309) (by decide +kernel), rfl⟩
theorem wd_310 : Cond.methodLink "DuelSamples$Roster" 31 ⟨"DuelSamples$Roster", "fact", "(II)I"⟩ ∈ TG := List.mem_filter.mpr ⟨List.mem_of_getElem? (i := 310) (by decide +kernel), rfl⟩
theorem wd_311 : Cond.instanceMethod ⟨"DuelSamples$Roster", "fact", "(II)I"⟩ ∈ TG := List.mem_filter.mpr ⟨List.mem_of_getElem? (i := 311) (by decide +kernel), rfl⟩
theorem wd_312 : Cond.selects "DuelSamples$Roster" ⟨"DuelSamples$Roster", "fact", "(II)I"⟩ ⟨"DuelSamples$Roster", "fact", "(II)I"⟩ ∈ TG := List.mem_filter.mpr ⟨List.mem_of_getElem? (i := 312) (by decide +kernel), rfl⟩
theorem wd_313 : Cond.code ⟨"DuelSamples$Roster", "fact", "(II)I"⟩ prog_5_method_4_code 3 (Option.some Jvm.ClassFile.FieldType.int) ∈ TG := List.mem_filter.mpr ⟨List.mem_of_getElem? (i := 313) (by decide +kernel), rfl⟩
theorem wd_314 : Cond.methodLink "DuelSamplesLaw" 33 ⟨"DuelSamples", "of", "(II)I"⟩ ∈ TG := List.mem_filter.mpr ⟨List.mem_of_getElem? (i := 314) (by decide +kernel), rfl⟩
theorem wd_315 : Cond.instanceMethod ⟨"DuelSamples", "of", "(II)I"⟩ ∈ TG := List.mem_filter.mpr ⟨List.mem_of_getElem? (i := 315) (by decide +kernel), rfl⟩
theorem wd_316 : Cond.selects "DuelSamples" ⟨"DuelSamples", "of", "(II)I"⟩ ⟨"DuelSamples", "of", "(II)I"⟩ ∈ TG := List.mem_filter.mpr ⟨List.mem_of_getElem? (i := 316) (by decide +kernel), rfl⟩
theorem wd_317 : Cond.code ⟨"DuelSamples", "of", "(II)I"⟩ prog_1_method_6_code 3 (Option.some Jvm.ClassFile.FieldType.int) ∈ TG := List.mem_filter.mpr ⟨List.mem_of_getElem? (i := 317) (by decide +kernel), rfl⟩
theorem wd_318 : Cond.methodLink "DuelSamples" 103 ⟨"DuelSamples", "knownOf", "(II)I"⟩ ∈ TG := List.mem_filter.mpr ⟨List.mem_of_getElem? (i := 318) (by decide +kernel), rfl⟩
theorem wd_320 : Cond.instanceMethod ⟨"DuelSamples", "knownOf", "(II)I"⟩ ∈ TG := List.mem_filter.mpr ⟨List.mem_of_getElem? (i := 320) (by decide +kernel), rfl⟩
theorem wd_321 : Cond.code ⟨"DuelSamples", "knownOf", "(II)I"⟩ prog_1_method_32_code 3 (Option.some Jvm.ClassFile.FieldType.int) ∈ TG := List.mem_filter.mpr ⟨List.mem_of_getElem? (i := 321) (by decide +kernel), rfl⟩
theorem wd_322 : Cond.methodLink "DuelSamples" 143 ⟨"DuelSamples$Course", "holds", "(I)Z"⟩ ∈ TG := List.mem_filter.mpr ⟨List.mem_of_getElem? (i := 322) (by decide +kernel), rfl⟩
theorem wd_323 : Cond.instanceMethod ⟨"DuelSamples$Course", "holds", "(I)Z"⟩ ∈ TG := List.mem_filter.mpr ⟨List.mem_of_getElem? (i := 323) (by decide +kernel), rfl⟩
theorem wd_324 : Cond.selects "DuelSamples$Course" ⟨"DuelSamples$Course", "holds", "(I)Z"⟩ ⟨"DuelSamples$Course", "holds", "(I)Z"⟩ ∈ TG := List.mem_filter.mpr ⟨List.mem_of_getElem? (i := 324) (by decide +kernel), rfl⟩
theorem wd_325 : Cond.code ⟨"DuelSamples$Course", "holds", "(I)Z"⟩ prog_2_method_5_code 2 (Option.some Jvm.ClassFile.FieldType.boolean) ∈ TG := List.mem_filter.mpr ⟨List.mem_of_getElem? (i := 325) (by decide +kernel), rfl⟩
theorem wd_326 : Cond.methodLink "DuelSamples" 146 ⟨"DuelSamples$Roster", "fact", "(II)I"⟩ ∈ TG := List.mem_filter.mpr ⟨List.mem_of_getElem? (i := 326) (by decide +kernel), rfl⟩
theorem wd_327 : Cond.methodLink "DuelSamplesLaw" 37 ⟨"DuelSamples", "all", "(I)I"⟩ ∈ TG := List.mem_filter.mpr ⟨List.mem_of_getElem? (i := 327) (by decide +kernel), rfl⟩
theorem wd_328 : Cond.instanceMethod ⟨"DuelSamples", "all", "(I)I"⟩ ∈ TG := List.mem_filter.mpr ⟨List.mem_of_getElem? (i := 328) (by decide +kernel), rfl⟩
theorem wd_329 : Cond.selects "DuelSamples" ⟨"DuelSamples", "all", "(I)I"⟩ ⟨"DuelSamples", "all", "(I)I"⟩ ∈ TG := List.mem_filter.mpr ⟨List.mem_of_getElem? (i := 329) (by decide +kernel), rfl⟩
theorem wd_330 : Cond.code ⟨"DuelSamples", "all", "(I)I"⟩ prog_1_method_7_code 2 (Option.some Jvm.ClassFile.FieldType.int) ∈ TG := List.mem_filter.mpr ⟨List.mem_of_getElem? (i := 330) (by decide +kernel), rfl⟩
theorem wd_331 : Cond.methodLink "DuelSamples" 107 ⟨"DuelSamples$Roster", "openAtFirst", "()I"⟩ ∈ TG := List.mem_filter.mpr ⟨List.mem_of_getElem? (i := 331) (by decide +kernel), rfl⟩
theorem wd_332 : Cond.instanceMethod ⟨"DuelSamples$Roster", "openAtFirst", "()I"⟩ ∈ TG := List.mem_filter.mpr ⟨List.mem_of_getElem? (i := 332) (by decide +kernel), rfl⟩
theorem wd_333 : Cond.selects "DuelSamples$Roster" ⟨"DuelSamples$Roster", "openAtFirst", "()I"⟩ ⟨"DuelSamples$Roster", "openAtFirst", "()I"⟩ ∈ TG := List.mem_filter.mpr ⟨List.mem_of_getElem? (i := 333) (by decide +kernel), rfl⟩
theorem wd_334 : Cond.code ⟨"DuelSamples$Roster", "openAtFirst", "()I"⟩ prog_5_method_10_code 3 (Option.some Jvm.ClassFile.FieldType.int) ∈ TG := List.mem_filter.mpr ⟨List.mem_of_getElem? (i := 334) (by decide +kernel), rfl⟩
theorem wd_335 : Cond.methodLink "DuelSamplesLaw" 42 ⟨"DuelSamples", "method", "(I)I"⟩ ∈ TG := List.mem_filter.mpr ⟨List.mem_of_getElem? (i := 335) (by decide +kernel), rfl⟩
theorem wd_336 : Cond.instanceMethod ⟨"DuelSamples", "method", "(I)I"⟩ ∈ TG := List.mem_filter.mpr ⟨List.mem_of_getElem? (i := 336) (by decide +kernel), rfl⟩
theorem wd_337 : Cond.selects "DuelSamples" ⟨"DuelSamples", "method", "(I)I"⟩ ⟨"DuelSamples", "method", "(I)I"⟩ ∈ TG := List.mem_filter.mpr ⟨List.mem_of_getElem? (i := 337) (by decide +kernel), rfl⟩
theorem wd_338 : Cond.code ⟨"DuelSamples", "method", "(I)I"⟩ prog_1_method_8_code 2 (Option.some Jvm.ClassFile.FieldType.int) ∈ TG := List.mem_filter.mpr ⟨List.mem_of_getElem? (i := 338) (by decide +kernel), rfl⟩
theorem wd_339 : Cond.methodLink "DuelSamples" 111 ⟨"DuelSamples", "changeMethod", "(I)I"⟩ ∈ TG := List.mem_filter.mpr ⟨List.mem_of_getElem? (i := 339) (by decide +kernel), rfl⟩
theorem wd_341 : Cond.instanceMethod ⟨"DuelSamples", "changeMethod", "(I)I"⟩ ∈ TG := List.mem_filter.mpr ⟨List.mem_of_getElem? (i := 341) (by decide +kernel), rfl⟩
theorem wd_342 : Cond.code ⟨"DuelSamples", "changeMethod", "(I)I"⟩ prog_1_method_33_code 3 (Option.some Jvm.ClassFile.FieldType.int) ∈ TG := List.mem_filter.mpr ⟨List.mem_of_getElem? (i := 342) (by decide +kernel), rfl⟩
theorem wd_343 : Cond.methodLink "DuelSamplesLaw" 46 ⟨"DuelSamples", "walk", "(I)I"⟩ ∈ TG := List.mem_filter.mpr ⟨List.mem_of_getElem? (i := 343) (by decide +kernel), rfl⟩
theorem wd_344 : Cond.instanceMethod ⟨"DuelSamples", "walk", "(I)I"⟩ ∈ TG := List.mem_filter.mpr ⟨List.mem_of_getElem? (i := 344) (by decide +kernel), rfl⟩
theorem wd_345 : Cond.selects "DuelSamples" ⟨"DuelSamples", "walk", "(I)I"⟩ ⟨"DuelSamples", "walk", "(I)I"⟩ ∈ TG := List.mem_filter.mpr ⟨List.mem_of_getElem? (i := 345) (by decide +kernel), rfl⟩
theorem wd_346 : Cond.code ⟨"DuelSamples", "walk", "(I)I"⟩ prog_1_method_9_code 2 (Option.some Jvm.ClassFile.FieldType.int) ∈ TG := List.mem_filter.mpr ⟨List.mem_of_getElem? (i := 346) (by decide +kernel), rfl⟩
theorem wd_347 : Cond.methodLink "DuelSamples" 117 ⟨"DuelSamples$Course", "run", "(LDuelSamples$Roster;II)V"⟩ ∈ TG := List.mem_filter.mpr ⟨List.mem_of_getElem? (i := 347) (by decide +kernel), rfl⟩
theorem wd_348 : Cond.instanceMethod ⟨"DuelSamples$Course", "run", "(LDuelSamples$Roster;II)V"⟩ ∈ TG := List.mem_filter.mpr ⟨List.mem_of_getElem? (i := 348) (by decide +kernel), rfl⟩
theorem wd_349 : Cond.selects "DuelSamples$Course" ⟨"DuelSamples$Course", "run", "(LDuelSamples$Roster;II)V"⟩ ⟨"DuelSamples$Course", "run", "(LDuelSamples$Roster;II)V"⟩ ∈ TG := List.mem_filter.mpr ⟨List.mem_of_getElem? (i := 349) (by decide +kernel), rfl⟩
theorem wd_350 : Cond.code ⟨"DuelSamples$Course", "run", "(LDuelSamples$Roster;II)V"⟩ prog_2_method_2_code 9 (Option.none : Option Jvm.ClassFile.FieldType) ∈ TG := List.mem_filter.mpr ⟨List.mem_of_getElem? (i := 350) (by decide +kernel), rfl⟩
theorem wd_351 : Cond.methodLink "DuelSamples$Course" 24 ⟨"DuelSamples$Course", "forget", "()V"⟩ ∈ TG := List.mem_filter.mpr ⟨List.mem_of_getElem? (i := 351) (by decide +kernel), rfl⟩
theorem wd_352 : Cond.methodLink "DuelSamples$Course" 27 ⟨"DuelSamples$Course", "begin", "(LDuelSamples$Roster;)V"⟩ ∈ TG := List.mem_filter.mpr ⟨List.mem_of_getElem? (i := 352) (by decide +kernel), rfl⟩
theorem wd_353 : Cond.instanceMethod ⟨"DuelSamples$Course", "begin", "(LDuelSamples$Roster;)V"⟩ ∈ TG := List.mem_filter.mpr ⟨List.mem_of_getElem? (i := 353) (by decide +kernel), rfl⟩
theorem wd_354 : Cond.selects "DuelSamples$Course" ⟨"DuelSamples$Course", "begin", "(LDuelSamples$Roster;)V"⟩ ⟨"DuelSamples$Course", "begin", "(LDuelSamples$Roster;)V"⟩ ∈ TG := List.mem_filter.mpr ⟨List.mem_of_getElem? (i := 354) (by decide +kernel), rfl⟩
theorem wd_355 : Cond.code ⟨"DuelSamples$Course", "begin", "(LDuelSamples$Roster;)V"⟩ prog_2_method_4_code 3 (Option.none : Option Jvm.ClassFile.FieldType) ∈ TG := List.mem_filter.mpr ⟨List.mem_of_getElem? (i := 355) (by decide +kernel), rfl⟩
theorem wd_356 : Cond.methodLink "DuelSamples$Course" 71 ⟨"DuelSamples$Roster", "fact", "(II)I"⟩ ∈ TG := List.mem_filter.mpr ⟨List.mem_of_getElem? (i := 356) (by decide +kernel), rfl⟩
theorem wd_357 : Cond.methodLink "DuelSamples$Course" 31 ⟨"DuelSamples$Course", "pick", "(LDuelSamples$Roster;I)Z"⟩ ∈ TG := List.mem_filter.mpr ⟨List.mem_of_getElem? (i := 357) (by decide +kernel), rfl⟩
theorem wd_358 : Cond.instanceMethod ⟨"DuelSamples$Course", "pick", "(LDuelSamples$Roster;I)Z"⟩ ∈ TG := List.mem_filter.mpr ⟨List.mem_of_getElem? (i := 358) (by decide +kernel), rfl⟩
theorem wd_359 : Cond.selects "DuelSamples$Course" ⟨"DuelSamples$Course", "pick", "(LDuelSamples$Roster;I)Z"⟩ ⟨"DuelSamples$Course", "pick", "(LDuelSamples$Roster;I)Z"⟩ ∈ TG := List.mem_filter.mpr ⟨List.mem_of_getElem? (i := 359) (by decide +kernel), rfl⟩
theorem wd_360 : Cond.code ⟨"DuelSamples$Course", "pick", "(LDuelSamples$Roster;I)Z"⟩ prog_2_method_12_code 3 (Option.some Jvm.ClassFile.FieldType.boolean) ∈ TG := List.mem_filter.mpr ⟨List.mem_of_getElem? (i := 360) (by decide +kernel), rfl⟩
theorem wd_361 : Cond.methodLink "DuelSamples$Course" 81 ⟨"DuelSamples$Course", "openFrom", "(I)I"⟩ ∈ TG := List.mem_filter.mpr ⟨List.mem_of_getElem? (i := 361) (by decide +kernel), rfl⟩
theorem wd_363 : Cond.instanceMethod ⟨"DuelSamples$Course", "openFrom", "(I)I"⟩ ∈ TG := List.mem_filter.mpr ⟨List.mem_of_getElem? (i := 363) (by decide +kernel), rfl⟩
theorem wd_364 : Cond.code ⟨"DuelSamples$Course", "openFrom", "(I)I"⟩ prog_2_method_11_code 3 (Option.some Jvm.ClassFile.FieldType.int) ∈ TG := List.mem_filter.mpr ⟨List.mem_of_getElem? (i := 364) (by decide +kernel), rfl⟩
theorem wd_365 : Cond.methodLink "DuelSamples$Course" 77 ⟨"DuelSamples$Course", "isOpen", "(I)Z"⟩ ∈ TG := List.mem_filter.mpr ⟨List.mem_of_getElem? (i := 365) (by decide +kernel), rfl⟩
theorem wd_367 : Cond.instanceMethod ⟨"DuelSamples$Course", "isOpen", "(I)Z"⟩ ∈ TG := List.mem_filter.mpr ⟨List.mem_of_getElem? (i := 367) (by decide +kernel), rfl⟩
theorem wd_368 : Cond.code ⟨"DuelSamples$Course", "isOpen", "(I)Z"⟩ prog_2_method_10_code 2 (Option.some Jvm.ClassFile.FieldType.boolean) ∈ TG := List.mem_filter.mpr ⟨List.mem_of_getElem? (i := 368) (by decide +kernel), rfl⟩
theorem wd_369 : Cond.methodLink "DuelSamples$Course" 91 ⟨"DuelSamples$Course", "byDistance", "(LDuelSamples$Roster;I)I"⟩ ∈ TG := List.mem_filter.mpr ⟨List.mem_of_getElem? (i := 369) (by decide +kernel), rfl⟩
theorem wd_371 : Cond.instanceMethod ⟨"DuelSamples$Course", "byDistance", "(LDuelSamples$Roster;I)I"⟩ ∈ TG := List.mem_filter.mpr ⟨List.mem_of_getElem? (i := 371) (by decide +kernel), rfl⟩
theorem wd_372 : Cond.code ⟨"DuelSamples$Course", "byDistance", "(LDuelSamples$Roster;I)I"⟩ prog_2_method_13_code 7 (Option.some Jvm.ClassFile.FieldType.int) ∈ TG := List.mem_filter.mpr ⟨List.mem_of_getElem? (i := 372) (by decide +kernel), rfl⟩
theorem wd_373 : Cond.methodLink "DuelSamples$Course" 101 ⟨"DuelSamples$Roster", "distance", "(II)I"⟩ ∈ TG := List.mem_filter.mpr ⟨List.mem_of_getElem? (i := 373) (by decide +kernel), rfl⟩
theorem wd_374 : Cond.instanceMethod ⟨"DuelSamples$Roster", "distance", "(II)I"⟩ ∈ TG := List.mem_filter.mpr ⟨List.mem_of_getElem? (i := 374) (by decide +kernel), rfl⟩
theorem wd_375 : Cond.selects "DuelSamples$Roster" ⟨"DuelSamples$Roster", "distance", "(II)I"⟩ ⟨"DuelSamples$Roster", "distance", "(II)I"⟩ ∈ TG := List.mem_filter.mpr ⟨List.mem_of_getElem? (i := 375) (by decide +kernel), rfl⟩
theorem wd_376 : Cond.code ⟨"DuelSamples$Roster", "distance", "(II)I"⟩ prog_5_method_8_code 3 (Option.some Jvm.ClassFile.FieldType.int) ∈ TG := List.mem_filter.mpr ⟨List.mem_of_getElem? (i := 376) (by decide +kernel), rfl⟩
theorem wd_377 : Cond.methodLink "DuelSamples$Roster" 35 ⟨"java/lang/Math", "abs", "(I)I"⟩ ∈ TG := List.mem_filter.mpr ⟨List.mem_of_getElem? (i := 377) (by decide +kernel), rfl⟩
theorem wd_378 : Cond.static ⟨"java/lang/Math", "abs", "(I)I"⟩ ∈ TG := List.mem_filter.mpr ⟨List.mem_of_getElem? (i := 378) (by decide +kernel), rfl⟩
theorem wd_379 : Cond.code ⟨"java/lang/Math", "abs", "(I)I"⟩ prog_11_method_59_code 1 (Option.some Jvm.ClassFile.FieldType.int) ∈ TG := List.mem_filter.mpr ⟨List.mem_of_getElem? (i := 379) (by decide +kernel), rfl⟩
theorem wd_380 : Cond.methodLink "DuelSamples$Course" 95 ⟨"DuelSamples$Course", "pickOfStratum", "(LDuelSamples$Roster;)V"⟩ ∈ TG := List.mem_filter.mpr ⟨List.mem_of_getElem? (i := 380) (by decide +kernel), rfl⟩
theorem wd_382 : Cond.instanceMethod ⟨"DuelSamples$Course", "pickOfStratum", "(LDuelSamples$Roster;)V"⟩ ∈ TG := List.mem_filter.mpr ⟨List.mem_of_getElem? (i := 382) (by decide +kernel), rfl⟩
theorem wd_383 : Cond.code ⟨"DuelSamples$Course", "pickOfStratum", "(LDuelSamples$Roster;)V"⟩ prog_2_method_14_code 5 (Option.none : Option Jvm.ClassFile.FieldType) ∈ TG := List.mem_filter.mpr ⟨List.mem_of_getElem? (i := 383) (by decide +kernel), rfl⟩
theorem wd_384 : Cond.methodLink "DuelSamples$Course" 104 ⟨"DuelSamples$Course", "openOfStratum", "(LDuelSamples$Roster;II)I"⟩ ∈ TG := List.mem_filter.mpr ⟨List.mem_of_getElem? (i := 384) (by decide +kernel), rfl⟩
theorem wd_386 : Cond.instanceMethod ⟨"DuelSamples$Course", "openOfStratum", "(LDuelSamples$Roster;II)I"⟩ ∈ TG := List.mem_filter.mpr ⟨List.mem_of_getElem? (i := 386) (by decide +kernel), rfl⟩
theorem wd_387 : Cond.code ⟨"DuelSamples$Course", "openOfStratum", "(LDuelSamples$Roster;II)I"⟩ prog_2_method_15_code 5 (Option.some Jvm.ClassFile.FieldType.int) ∈ TG := List.mem_filter.mpr ⟨List.mem_of_getElem? (i := 387) (by decide +kernel), rfl⟩
theorem wd_388 : Cond.methodLink "DuelSamples$Course" 98 ⟨"DuelSamples$Course", "pickByChance", "()V"⟩ ∈ TG := List.mem_filter.mpr ⟨List.mem_of_getElem? (i := 388) (by decide +kernel), rfl⟩
theorem wd_390 : Cond.instanceMethod ⟨"DuelSamples$Course", "pickByChance", "()V"⟩ ∈ TG := List.mem_filter.mpr ⟨List.mem_of_getElem? (i := 390) (by decide +kernel), rfl⟩
theorem wd_391 : Cond.code ⟨"DuelSamples$Course", "pickByChance", "()V"⟩ prog_2_method_16_code 1 (Option.none : Option Jvm.ClassFile.FieldType) ∈ TG := List.mem_filter.mpr ⟨List.mem_of_getElem? (i := 391) (by decide +kernel), rfl⟩
theorem wd_392 : Cond.methodLink "DuelSamples$Course" 108 ⟨"DuelSamples$Course", "mostLeftBut", "(I)I"⟩ ∈ TG := List.mem_filter.mpr ⟨List.mem_of_getElem? (i := 392) (by decide +kernel), rfl⟩
theorem wd_394 : Cond.instanceMethod ⟨"DuelSamples$Course", "mostLeftBut", "(I)I"⟩ ∈ TG := List.mem_filter.mpr ⟨List.mem_of_getElem? (i := 394) (by decide +kernel), rfl⟩
theorem wd_395 : Cond.code ⟨"DuelSamples$Course", "mostLeftBut", "(I)I"⟩ prog_2_method_17_code 5 (Option.some Jvm.ClassFile.FieldType.int) ∈ TG := List.mem_filter.mpr ⟨List.mem_of_getElem? (i := 395) (by decide +kernel), rfl⟩
theorem wn_396 : Cond.methodLinkNest "DuelSamples$Course" 35 ⟨"DuelSamples", "nextX", "(J)J"⟩ "DuelSamples" ∈ NW := List.mem_filter.mpr ⟨List.mem_of_getElem? (i := 396) (by decide +kernel), rfl⟩
theorem wd_397 : Cond.methodLink "DuelSamples$Course" 39 ⟨"DuelSamples$Course", "chancesOfBoth", "()I"⟩ ∈ TG := List.mem_filter.mpr ⟨List.mem_of_getElem? (i := 397) (by decide +kernel), rfl⟩
theorem wd_399 : Cond.instanceMethod ⟨"DuelSamples$Course", "chancesOfBoth", "()I"⟩ ∈ TG := List.mem_filter.mpr ⟨List.mem_of_getElem? (i := 399) (by decide +kernel), rfl⟩
theorem wd_400 : Cond.code ⟨"DuelSamples$Course", "chancesOfBoth", "()I"⟩ prog_2_method_19_code 2 (Option.some Jvm.ClassFile.FieldType.int) ∈ TG := List.mem_filter.mpr ⟨List.mem_of_getElem? (i := 400) (by decide +kernel), rfl⟩
theorem wd_401 : Cond.methodLink "DuelSamples$Course" 114 ⟨"DuelSamples$Course", "leftOfBoth", "()I"⟩ ∈ TG := List.mem_filter.mpr ⟨List.mem_of_getElem? (i := 401) (by decide +kernel), rfl⟩
theorem wd_403 : Cond.instanceMethod ⟨"DuelSamples$Course", "leftOfBoth", "()I"⟩ ∈ TG := List.mem_filter.mpr ⟨List.mem_of_getElem? (i := 403) (by decide +kernel), rfl⟩
theorem wd_404 : Cond.code ⟨"DuelSamples$Course", "leftOfBoth", "()I"⟩ prog_2_method_18_code 1 (Option.some Jvm.ClassFile.FieldType.int) ∈ TG := List.mem_filter.mpr ⟨List.mem_of_getElem? (i := 404) (by decide +kernel), rfl⟩
theorem wd_405 : Cond.methodLink "DuelSamples$Course" 111 ⟨"DuelSamples$Course", "leftOf", "(I)I"⟩ ∈ TG := List.mem_filter.mpr ⟨List.mem_of_getElem? (i := 405) (by decide +kernel), rfl⟩
theorem wd_406 : Cond.instanceMethod ⟨"DuelSamples$Course", "leftOf", "(I)I"⟩ ∈ TG := List.mem_filter.mpr ⟨List.mem_of_getElem? (i := 406) (by decide +kernel), rfl⟩
theorem wd_407 : Cond.selects "DuelSamples$Course" ⟨"DuelSamples$Course", "leftOf", "(I)I"⟩ ⟨"DuelSamples$Course", "leftOf", "(I)I"⟩ ∈ TG := List.mem_filter.mpr ⟨List.mem_of_getElem? (i := 407) (by decide +kernel), rfl⟩
theorem wd_408 : Cond.code ⟨"DuelSamples$Course", "leftOf", "(I)I"⟩ prog_2_method_8_code 2 (Option.some Jvm.ClassFile.FieldType.int) ∈ TG := List.mem_filter.mpr ⟨List.mem_of_getElem? (i := 408) (by decide +kernel), rfl⟩
theorem wd_409 : Cond.constantLong "DuelSamples$Course" 43 (65536) ∈ TG := List.mem_filter.mpr ⟨List.mem_of_getElem? (i := 409) (by decide +kernel), rfl⟩
theorem wd_410 : Cond.methodLink "DuelSamples$Course" 45 ⟨"DuelSamples$Course", "chancesOfFirst", "()I"⟩ ∈ TG := List.mem_filter.mpr ⟨List.mem_of_getElem? (i := 410) (by decide +kernel), rfl⟩
theorem wd_412 : Cond.instanceMethod ⟨"DuelSamples$Course", "chancesOfFirst", "()I"⟩ ∈ TG := List.mem_filter.mpr ⟨List.mem_of_getElem? (i := 412) (by decide +kernel), rfl⟩
theorem wd_413 : Cond.code ⟨"DuelSamples$Course", "chancesOfFirst", "()I"⟩ prog_2_method_20_code 1 (Option.some Jvm.ClassFile.FieldType.int) ∈ TG := List.mem_filter.mpr ⟨List.mem_of_getElem? (i := 413) (by decide +kernel), rfl⟩
theorem wd_414 : Cond.methodLink "DuelSamples$Course" 48 ⟨"DuelSamples$Course", "write", "(Z)V"⟩ ∈ TG := List.mem_filter.mpr ⟨List.mem_of_getElem? (i := 414) (by decide +kernel), rfl⟩
theorem wd_416 : Cond.instanceMethod ⟨"DuelSamples$Course", "write", "(Z)V"⟩ ∈ TG := List.mem_filter.mpr ⟨List.mem_of_getElem? (i := 416) (by decide +kernel), rfl⟩
theorem wd_417 : Cond.code ⟨"DuelSamples$Course", "write", "(Z)V"⟩ prog_2_method_21_code 2 (Option.none : Option Jvm.ClassFile.FieldType) ∈ TG := List.mem_filter.mpr ⟨List.mem_of_getElem? (i := 417) (by decide +kernel), rfl⟩
theorem wd_418 : Cond.methodLink "DuelSamples$Course" 52 ⟨"DuelSamples$Course", "settle", "(Z)V"⟩ ∈ TG := List.mem_filter.mpr ⟨List.mem_of_getElem? (i := 418) (by decide +kernel), rfl⟩
theorem wd_419 : Cond.instanceMethod ⟨"DuelSamples$Course", "settle", "(Z)V"⟩ ∈ TG := List.mem_filter.mpr ⟨List.mem_of_getElem? (i := 419) (by decide +kernel), rfl⟩
theorem wd_420 : Cond.selects "DuelSamples$Course" ⟨"DuelSamples$Course", "settle", "(Z)V"⟩ ⟨"DuelSamples$Course", "settle", "(Z)V"⟩ ∈ TG := List.mem_filter.mpr ⟨List.mem_of_getElem? (i := 420) (by decide +kernel), rfl⟩
theorem wd_421 : Cond.code ⟨"DuelSamples$Course", "settle", "(Z)V"⟩ prog_2_method_22_code 4 (Option.none : Option Jvm.ClassFile.FieldType) ∈ TG := List.mem_filter.mpr ⟨List.mem_of_getElem? (i := 421) (by decide +kernel), rfl⟩
theorem wd_422 : Cond.methodLink "DuelSamples$Course" 117 ⟨"DuelSamples$Course", "leave", "(II)V"⟩ ∈ TG := List.mem_filter.mpr ⟨List.mem_of_getElem? (i := 422) (by decide +kernel), rfl⟩
theorem wd_424 : Cond.instanceMethod ⟨"DuelSamples$Course", "leave", "(II)V"⟩ ∈ TG := List.mem_filter.mpr ⟨List.mem_of_getElem? (i := 424) (by decide +kernel), rfl⟩
theorem wd_425 : Cond.code ⟨"DuelSamples$Course", "leave", "(II)V"⟩ prog_2_method_9_code 3 (Option.none : Option Jvm.ClassFile.FieldType) ∈ TG := List.mem_filter.mpr ⟨List.mem_of_getElem? (i := 425) (by decide +kernel), rfl⟩
theorem wd_426 : Cond.methodLink "DuelSamples$Course" 121 ⟨"java/lang/Math", "min", "(II)I"⟩ ∈ TG := List.mem_filter.mpr ⟨List.mem_of_getElem? (i := 426) (by decide +kernel), rfl⟩
theorem wd_427 : Cond.static ⟨"java/lang/Math", "min", "(II)I"⟩ ∈ TG := List.mem_filter.mpr ⟨List.mem_of_getElem? (i := 427) (by decide +kernel), rfl⟩
theorem wd_428 : Cond.code ⟨"java/lang/Math", "min", "(II)I"⟩ prog_11_method_69_code 2 (Option.some Jvm.ClassFile.FieldType.int) ∈ TG := List.mem_filter.mpr ⟨List.mem_of_getElem? (i := 428) (by decide +kernel), rfl⟩
theorem wd_429 : Cond.methodLink "DuelSamples$Course" 55 ⟨"DuelSamples$Course", "wholeOnes", "()I"⟩ ∈ TG := List.mem_filter.mpr ⟨List.mem_of_getElem? (i := 429) (by decide +kernel), rfl⟩
theorem wd_430 : Cond.instanceMethod ⟨"DuelSamples$Course", "wholeOnes", "()I"⟩ ∈ TG := List.mem_filter.mpr ⟨List.mem_of_getElem? (i := 430) (by decide +kernel), rfl⟩
theorem wd_431 : Cond.selects "DuelSamples$Course" ⟨"DuelSamples$Course", "wholeOnes", "()I"⟩ ⟨"DuelSamples$Course", "wholeOnes", "()I"⟩ ∈ TG := List.mem_filter.mpr ⟨List.mem_of_getElem? (i := 431) (by decide +kernel), rfl⟩
theorem wd_432 : Cond.code ⟨"DuelSamples$Course", "wholeOnes", "()I"⟩ prog_2_method_24_code 3 (Option.some Jvm.ClassFile.FieldType.int) ∈ TG := List.mem_filter.mpr ⟨List.mem_of_getElem? (i := 432) (by decide +kernel), rfl⟩
theorem wd_433 : Cond.methodLink "DuelSamples" 124 ⟨"java/lang/Integer", "bitCount", "(I)I"⟩ ∈ TG := List.mem_filter.mpr ⟨List.mem_of_getElem? (i := 433) (by decide +kernel), rfl⟩
theorem wd_434 : Cond.static ⟨"java/lang/Integer", "bitCount", "(I)I"⟩ ∈ TG := List.mem_filter.mpr ⟨List.mem_of_getElem? (i := 434) (by decide +kernel), rfl⟩
theorem wd_435 : Cond.code ⟨"java/lang/Integer", "bitCount", "(I)I"⟩ prog_9_method_49_code 1 (Option.some Jvm.ClassFile.FieldType.int) ∈ TG := List.mem_filter.mpr ⟨List.mem_of_getElem? (i := 435) (by decide +kernel), rfl⟩
theorem wd_436 : Cond.constant "java/lang/Integer" 265 (1431655765) ∈ TG := List.mem_filter.mpr ⟨List.mem_of_getElem? (i := 436) (by decide +kernel), rfl⟩
theorem wd_437 : Cond.constant "java/lang/Integer" 266 (858993459) ∈ TG := List.mem_filter.mpr ⟨List.mem_of_getElem? (i := 437) (by decide +kernel), rfl⟩
theorem wd_438 : Cond.constant "java/lang/Integer" 267 (252645135) ∈ TG := List.mem_filter.mpr ⟨List.mem_of_getElem? (i := 438) (by decide +kernel), rfl⟩
theorem wd_439 : Cond.methodLink "DuelSamplesLaw" 50 ⟨"DuelSamples", "was", "(I)I"⟩ ∈ TG := List.mem_filter.mpr ⟨List.mem_of_getElem? (i := 439) (by decide +kernel), rfl⟩
theorem wd_440 : Cond.instanceMethod ⟨"DuelSamples", "was", "(I)I"⟩ ∈ TG := List.mem_filter.mpr ⟨List.mem_of_getElem? (i := 440) (by decide +kernel), rfl⟩
theorem wd_441 : Cond.selects "DuelSamples" ⟨"DuelSamples", "was", "(I)I"⟩ ⟨"DuelSamples", "was", "(I)I"⟩ ∈ TG := List.mem_filter.mpr ⟨List.mem_of_getElem? (i := 441) (by decide +kernel), rfl⟩
theorem wd_442 : Cond.code ⟨"DuelSamples", "was", "(I)I"⟩ prog_1_method_10_code 2 (Option.some Jvm.ClassFile.FieldType.int) ∈ TG := List.mem_filter.mpr ⟨List.mem_of_getElem? (i := 442) (by decide +kernel), rfl⟩
theorem wd_443 : Cond.methodLink "DuelSamples" 129 ⟨"DuelSamples$Course", "tally", "(I)I"⟩ ∈ TG := List.mem_filter.mpr ⟨List.mem_of_getElem? (i := 443) (by decide +kernel), rfl⟩
theorem wd_444 : Cond.instanceMethod ⟨"DuelSamples$Course", "tally", "(I)I"⟩ ∈ TG := List.mem_filter.mpr ⟨List.mem_of_getElem? (i := 444) (by decide +kernel), rfl⟩
theorem wd_445 : Cond.selects "DuelSamples$Course" ⟨"DuelSamples$Course", "tally", "(I)I"⟩ ⟨"DuelSamples$Course", "tally", "(I)I"⟩ ∈ TG := List.mem_filter.mpr ⟨List.mem_of_getElem? (i := 445) (by decide +kernel), rfl⟩
theorem wd_446 : Cond.code ⟨"DuelSamples$Course", "tally", "(I)I"⟩ prog_2_method_6_code 2 (Option.some Jvm.ClassFile.FieldType.int) ∈ TG := List.mem_filter.mpr ⟨List.mem_of_getElem? (i := 446) (by decide +kernel), rfl⟩
theorem wd_447 : Cond.methodLink "DuelSamplesLaw" 54 ⟨"DuelSamples", "play", "(II)I"⟩ ∈ TG := List.mem_filter.mpr ⟨List.mem_of_getElem? (i := 447) (by decide +kernel), rfl⟩
theorem wd_448 : Cond.instanceMethod ⟨"DuelSamples", "play", "(II)I"⟩ ∈ TG := List.mem_filter.mpr ⟨List.mem_of_getElem? (i := 448) (by decide +kernel), rfl⟩
theorem wd_449 : Cond.selects "DuelSamples" ⟨"DuelSamples", "play", "(II)I"⟩ ⟨"DuelSamples", "play", "(II)I"⟩ ∈ TG := List.mem_filter.mpr ⟨List.mem_of_getElem? (i := 449) (by decide +kernel), rfl⟩
theorem wd_450 : Cond.code ⟨"DuelSamples", "play", "(II)I"⟩ prog_1_method_11_code 3 (Option.some Jvm.ClassFile.FieldType.int) ∈ TG := List.mem_filter.mpr ⟨List.mem_of_getElem? (i := 450) (by decide +kernel), rfl⟩
theorem wd_451 : Cond.methodLink "DuelSamples" 132 ⟨"DuelSamples$Course", "recorded", "(II)I"⟩ ∈ TG := List.mem_filter.mpr ⟨List.mem_of_getElem? (i := 451) (by decide +kernel), rfl⟩
theorem wd_452 : Cond.instanceMethod ⟨"DuelSamples$Course", "recorded", "(II)I"⟩ ∈ TG := List.mem_filter.mpr ⟨List.mem_of_getElem? (i := 452) (by decide +kernel), rfl⟩
theorem wd_453 : Cond.selects "DuelSamples$Course" ⟨"DuelSamples$Course", "recorded", "(II)I"⟩ ⟨"DuelSamples$Course", "recorded", "(II)I"⟩ ∈ TG := List.mem_filter.mpr ⟨List.mem_of_getElem? (i := 453) (by decide +kernel), rfl⟩
theorem wd_454 : Cond.code ⟨"DuelSamples$Course", "recorded", "(II)I"⟩ prog_2_method_7_code 3 (Option.some Jvm.ClassFile.FieldType.int) ∈ TG := List.mem_filter.mpr ⟨List.mem_of_getElem? (i := 454) (by decide +kernel), rfl⟩
theorem wd_455 : Cond.methodLink "DuelSamplesLaw" 58 ⟨"DuelSamples", "counted", "(I)J"⟩ ∈ TG := List.mem_filter.mpr ⟨List.mem_of_getElem? (i := 455) (by decide +kernel), rfl⟩
theorem wd_456 : Cond.instanceMethod ⟨"DuelSamples", "counted", "(I)J"⟩ ∈ TG := List.mem_filter.mpr ⟨List.mem_of_getElem? (i := 456) (by decide +kernel), rfl⟩
theorem wd_457 : Cond.selects "DuelSamples" ⟨"DuelSamples", "counted", "(I)J"⟩ ⟨"DuelSamples", "counted", "(I)J"⟩ ∈ TG := List.mem_filter.mpr ⟨List.mem_of_getElem? (i := 457) (by decide +kernel), rfl⟩
theorem wd_458 : Cond.code ⟨"DuelSamples", "counted", "(I)J"⟩ prog_1_method_12_code 2 (Option.some Jvm.ClassFile.FieldType.long) ∈ TG := List.mem_filter.mpr ⟨List.mem_of_getElem? (i := 458) (by decide +kernel), rfl⟩
theorem wd_459 : Cond.methodLink "DuelSamples" 135 ⟨"DuelSamples$Roster", "countUp", "(II)J"⟩ ∈ TG := List.mem_filter.mpr ⟨List.mem_of_getElem? (i := 459) (by decide +kernel), rfl⟩
theorem wd_460 : Cond.instanceMethod ⟨"DuelSamples$Roster", "countUp", "(II)J"⟩ ∈ TG := List.mem_filter.mpr ⟨List.mem_of_getElem? (i := 460) (by decide +kernel), rfl⟩
theorem wd_461 : Cond.selects "DuelSamples$Roster" ⟨"DuelSamples$Roster", "countUp", "(II)J"⟩ ⟨"DuelSamples$Roster", "countUp", "(II)J"⟩ ∈ TG := List.mem_filter.mpr ⟨List.mem_of_getElem? (i := 461) (by decide +kernel), rfl⟩
theorem wd_462 : Cond.code ⟨"DuelSamples$Roster", "countUp", "(II)J"⟩ prog_5_method_11_code 7 (Option.some Jvm.ClassFile.FieldType.long) ∈ TG := List.mem_filter.mpr ⟨List.mem_of_getElem? (i := 462) (by decide +kernel), rfl⟩
theorem wd_463 : Cond.constant "DuelSamples$Roster" 41 (332640) ∈ TG := List.mem_filter.mpr ⟨List.mem_of_getElem? (i := 463) (by decide +kernel), rfl⟩
theorem wd_464 : Cond.methodLink "DuelSamples" 139 ⟨"DuelSamples$Roster", "miss", "(I)J"⟩ ∈ TG := List.mem_filter.mpr ⟨List.mem_of_getElem? (i := 464) (by decide +kernel), rfl⟩
theorem wd_465 : Cond.instanceMethod ⟨"DuelSamples$Roster", "miss", "(I)J"⟩ ∈ TG := List.mem_filter.mpr ⟨List.mem_of_getElem? (i := 465) (by decide +kernel), rfl⟩
theorem wd_466 : Cond.selects "DuelSamples$Roster" ⟨"DuelSamples$Roster", "miss", "(I)J"⟩ ⟨"DuelSamples$Roster", "miss", "(I)J"⟩ ∈ TG := List.mem_filter.mpr ⟨List.mem_of_getElem? (i := 466) (by decide +kernel), rfl⟩
theorem wd_467 : Cond.code ⟨"DuelSamples$Roster", "miss", "(I)J"⟩ prog_5_method_12_code 2 (Option.some Jvm.ClassFile.FieldType.long) ∈ TG := List.mem_filter.mpr ⟨List.mem_of_getElem? (i := 467) (by decide +kernel), rfl⟩
theorem wd_468 : Cond.methodLink "DuelSamples$Roster" 42 ⟨"DuelSamples$Roster", "countUp", "(II)J"⟩ ∈ TG := List.mem_filter.mpr ⟨List.mem_of_getElem? (i := 468) (by decide +kernel), rfl⟩
theorem wd_469 : Cond.methodLink "DuelSamples$Roster" 46 ⟨"DuelSamples$Roster", "sum", "(I)I"⟩ ∈ TG := List.mem_filter.mpr ⟨List.mem_of_getElem? (i := 469) (by decide +kernel), rfl⟩
theorem wd_470 : Cond.constantLong "DuelSamples$Roster" 49 (27720) ∈ TG := List.mem_filter.mpr ⟨List.mem_of_getElem? (i := 470) (by decide +kernel), rfl⟩
theorem wd_471 : Cond.methodLink "DuelSamples$Roster" 51 ⟨"java/lang/Math", "abs", "(J)J"⟩ ∈ TG := List.mem_filter.mpr ⟨List.mem_of_getElem? (i := 471) (by decide +kernel), rfl⟩
theorem wd_472 : Cond.static ⟨"java/lang/Math", "abs", "(J)J"⟩ ∈ TG := List.mem_filter.mpr ⟨List.mem_of_getElem? (i := 472) (by decide +kernel), rfl⟩
theorem wd_473 : Cond.code ⟨"java/lang/Math", "abs", "(J)J"⟩ prog_11_method_61_code 2 (Option.some Jvm.ClassFile.FieldType.long) ∈ TG := List.mem_filter.mpr ⟨List.mem_of_getElem? (i := 473) (by decide +kernel), rfl⟩
theorem wd_474 : Cond.methodLink "DuelSamplesLaw" 63 ⟨"DuelSamples", "inside", "(I)I"⟩ ∈ TG := List.mem_filter.mpr ⟨List.mem_of_getElem? (i := 474) (by decide +kernel), rfl⟩
theorem wd_475 : Cond.instanceMethod ⟨"DuelSamples", "inside", "(I)I"⟩ ∈ TG := List.mem_filter.mpr ⟨List.mem_of_getElem? (i := 475) (by decide +kernel), rfl⟩
theorem wd_476 : Cond.selects "DuelSamples" ⟨"DuelSamples", "inside", "(I)I"⟩ ⟨"DuelSamples", "inside", "(I)I"⟩ ∈ TG := List.mem_filter.mpr ⟨List.mem_of_getElem? (i := 476) (by decide +kernel), rfl⟩
theorem wd_477 : Cond.code ⟨"DuelSamples", "inside", "(I)I"⟩ prog_1_method_13_code 4 (Option.some Jvm.ClassFile.FieldType.int) ∈ TG := List.mem_filter.mpr ⟨List.mem_of_getElem? (i := 477) (by decide +kernel), rfl⟩
theorem wd_478 : Cond.methodLink "DuelSamplesLaw" 67 ⟨"DuelSamples", "spread", "()I"⟩ ∈ TG := List.mem_filter.mpr ⟨List.mem_of_getElem? (i := 478) (by decide +kernel), rfl⟩
theorem wd_479 : Cond.instanceMethod ⟨"DuelSamples", "spread", "()I"⟩ ∈ TG := List.mem_filter.mpr ⟨List.mem_of_getElem? (i := 479) (by decide +kernel), rfl⟩
theorem wd_480 : Cond.selects "DuelSamples" ⟨"DuelSamples", "spread", "()I"⟩ ⟨"DuelSamples", "spread", "()I"⟩ ∈ TG := List.mem_filter.mpr ⟨List.mem_of_getElem? (i := 480) (by decide +kernel), rfl⟩
theorem wd_481 : Cond.code ⟨"DuelSamples", "spread", "()I"⟩ prog_1_method_14_code 5 (Option.some Jvm.ClassFile.FieldType.int) ∈ TG := List.mem_filter.mpr ⟨List.mem_of_getElem? (i := 481) (by decide +kernel), rfl⟩
theorem wd_482 : Cond.methodLink "DuelSamples" 149 ⟨"DuelSamples$Roster", "distance", "(II)I"⟩ ∈ TG := List.mem_filter.mpr ⟨List.mem_of_getElem? (i := 482) (by decide +kernel), rfl⟩
theorem wd_483 : Cond.methodLink "DuelSamples" 152 ⟨"java/lang/Math", "min", "(II)I"⟩ ∈ TG := List.mem_filter.mpr ⟨List.mem_of_getElem? (i := 483) (by decide +kernel), rfl⟩
theorem wd_484 : Cond.methodLink "DuelSamplesLaw" 71 ⟨"DuelSamples", "often", "(III)I"⟩ ∈ TG := List.mem_filter.mpr ⟨List.mem_of_getElem? (i := 484) (by decide +kernel), rfl⟩
theorem wd_485 : Cond.instanceMethod ⟨"DuelSamples", "often", "(III)I"⟩ ∈ TG := List.mem_filter.mpr ⟨List.mem_of_getElem? (i := 485) (by decide +kernel), rfl⟩
theorem wd_486 : Cond.selects "DuelSamples" ⟨"DuelSamples", "often", "(III)I"⟩ ⟨"DuelSamples", "often", "(III)I"⟩ ∈ TG := List.mem_filter.mpr ⟨List.mem_of_getElem? (i := 486) (by decide +kernel), rfl⟩
theorem wd_487 : Cond.code ⟨"DuelSamples", "often", "(III)I"⟩ prog_1_method_15_code 4 (Option.some Jvm.ClassFile.FieldType.int) ∈ TG := List.mem_filter.mpr ⟨List.mem_of_getElem? (i := 487) (by decide +kernel), rfl⟩
theorem wd_488 : Cond.methodLink "DuelSamples" 157 ⟨"DuelSamples", "areSeeds", "(II)Z"⟩ ∈ TG := List.mem_filter.mpr ⟨List.mem_of_getElem? (i := 488) (by decide +kernel), rfl⟩
theorem wd_489 : Cond.static ⟨"DuelSamples", "areSeeds", "(II)Z"⟩ ∈ TG := List.mem_filter.mpr ⟨List.mem_of_getElem? (i := 489) (by decide +kernel), rfl⟩
theorem wd_490 : Cond.code ⟨"DuelSamples", "areSeeds", "(II)Z"⟩ prog_1_method_30_code 2 (Option.some Jvm.ClassFile.FieldType.boolean) ∈ TG := List.mem_filter.mpr ⟨List.mem_of_getElem? (i := 490) (by decide +kernel), rfl⟩
theorem wd_491 : Cond.constant "DuelSamples" 223 (1000000) ∈ TG := List.mem_filter.mpr ⟨List.mem_of_getElem? (i := 491) (by decide +kernel), rfl⟩
theorem wd_492 : Cond.methodLink "DuelSamples" 160 ⟨"DuelSamples", "walksWith", "(III)I"⟩ ∈ TG := List.mem_filter.mpr ⟨List.mem_of_getElem? (i := 492) (by decide +kernel), rfl⟩
theorem wd_494 : Cond.instanceMethod ⟨"DuelSamples", "walksWith", "(III)I"⟩ ∈ TG := List.mem_filter.mpr ⟨List.mem_of_getElem? (i := 494) (by decide +kernel), rfl⟩
theorem wd_495 : Cond.code ⟨"DuelSamples", "walksWith", "(III)I"⟩ prog_1_method_35_code 6 (Option.some Jvm.ClassFile.FieldType.int) ∈ TG := List.mem_filter.mpr ⟨List.mem_of_getElem? (i := 495) (by decide +kernel), rfl⟩
theorem wd_496 : Cond.methodLink "DuelSamplesLaw" 75 ⟨"DuelSamples", "both", "(IIII)I"⟩ ∈ TG := List.mem_filter.mpr ⟨List.mem_of_getElem? (i := 496) (by decide +kernel), rfl⟩
theorem wd_497 : Cond.instanceMethod ⟨"DuelSamples", "both", "(IIII)I"⟩ ∈ TG := List.mem_filter.mpr ⟨List.mem_of_getElem? (i := 497) (by decide +kernel), rfl⟩
theorem wd_498 : Cond.selects "DuelSamples" ⟨"DuelSamples", "both", "(IIII)I"⟩ ⟨"DuelSamples", "both", "(IIII)I"⟩ ∈ TG := List.mem_filter.mpr ⟨List.mem_of_getElem? (i := 498) (by decide +kernel), rfl⟩
theorem wd_499 : Cond.code ⟨"DuelSamples", "both", "(IIII)I"⟩ prog_1_method_16_code 5 (Option.some Jvm.ClassFile.FieldType.int) ∈ TG := List.mem_filter.mpr ⟨List.mem_of_getElem? (i := 499) (by decide +kernel), rfl⟩
theorem wd_500 : Cond.methodLink "DuelSamplesLaw" 80 ⟨"DuelSamples", "best", "(III)J"⟩ ∈ TG := List.mem_filter.mpr ⟨List.mem_of_getElem? (i := 500) (by decide +kernel), rfl⟩
theorem wd_501 : Cond.instanceMethod ⟨"DuelSamples", "best", "(III)J"⟩ ∈ TG := List.mem_filter.mpr ⟨List.mem_of_getElem? (i := 501) (by decide +kernel), rfl⟩
theorem wd_502 : Cond.selects "DuelSamples" ⟨"DuelSamples", "best", "(III)J"⟩ ⟨"DuelSamples", "best", "(III)J"⟩ ∈ TG := List.mem_filter.mpr ⟨List.mem_of_getElem? (i := 502) (by decide +kernel), rfl⟩
theorem wd_503 : Cond.code ⟨"DuelSamples", "best", "(III)J"⟩ prog_1_method_17_code 10 (Option.some Jvm.ClassFile.FieldType.long) ∈ TG := List.mem_filter.mpr ⟨List.mem_of_getElem? (i := 503) (by decide +kernel), rfl⟩
theorem wd_504 : Cond.constantLong "DuelSamples" 165 (9223372036854775807) ∈ TG := List.mem_filter.mpr ⟨List.mem_of_getElem? (i := 504) (by decide +kernel), rfl⟩
theorem wd_505 : Cond.methodLink "DuelSamplesLaw" 85 ⟨"DuelSamples", "many", "()I"⟩ ∈ TG := List.mem_filter.mpr ⟨List.mem_of_getElem? (i := 505) (by decide +kernel), rfl⟩
theorem wd_506 : Cond.instanceMethod ⟨"DuelSamples", "many", "()I"⟩ ∈ TG := List.mem_filter.mpr ⟨List.mem_of_getElem? (i := 506) (by decide +kernel), rfl⟩
theorem wd_507 : Cond.selects "DuelSamples" ⟨"DuelSamples", "many", "()I"⟩ ⟨"DuelSamples", "many", "()I"⟩ ∈ TG := List.mem_filter.mpr ⟨List.mem_of_getElem? (i := 507) (by decide +kernel), rfl⟩
theorem wd_508 : Cond.code ⟨"DuelSamples", "many", "()I"⟩ prog_1_method_18_code 1 (Option.some Jvm.ClassFile.FieldType.int) ∈ TG := List.mem_filter.mpr ⟨List.mem_of_getElem? (i := 508) (by decide +kernel), rfl⟩
theorem wd_509 : Cond.methodLink "DuelSamples" 167 ⟨"DuelSamples$Reach", "explore", "(LDuelSamples$Roster;ILDuelSamples$Course;)V"⟩ ∈ TG := List.mem_filter.mpr ⟨List.mem_of_getElem? (i := 509) (by decide +kernel), rfl⟩
theorem wd_510 : Cond.instanceMethod ⟨"DuelSamples$Reach", "explore", "(LDuelSamples$Roster;ILDuelSamples$Course;)V"⟩ ∈ TG := List.mem_filter.mpr ⟨List.mem_of_getElem? (i := 510) (by decide +kernel), rfl⟩
theorem wd_511 : Cond.selects "DuelSamples$Reach" ⟨"DuelSamples$Reach", "explore", "(LDuelSamples$Roster;ILDuelSamples$Course;)V"⟩ ⟨"DuelSamples$Reach", "explore", "(LDuelSamples$Roster;ILDuelSamples$Course;)V"⟩ ∈ TG := List.mem_filter.mpr ⟨List.mem_of_getElem? (i := 511) (by decide +kernel), rfl⟩
theorem wd_512 : Cond.code ⟨"DuelSamples$Reach", "explore", "(LDuelSamples$Roster;ILDuelSamples$Course;)V"⟩ prog_3_method_2_code 4 (Option.none : Option Jvm.ClassFile.FieldType) ∈ TG := List.mem_filter.mpr ⟨List.mem_of_getElem? (i := 512) (by decide +kernel), rfl⟩
theorem wd_513 : Cond.methodLink "DuelSamples$Reach" 27 ⟨"java/util/Arrays", "fill", "([JJ)V"⟩ ∈ TG := List.mem_filter.mpr ⟨List.mem_of_getElem? (i := 513) (by decide +kernel), rfl⟩
theorem wd_514 : Cond.static ⟨"java/util/Arrays", "fill", "([JJ)V"⟩ ∈ TG := List.mem_filter.mpr ⟨List.mem_of_getElem? (i := 514) (by decide +kernel), rfl⟩
theorem wd_515 : Cond.code ⟨"java/util/Arrays", "fill", "([JJ)V"⟩ prog_15_method_101_code 5 (Option.none : Option Jvm.ClassFile.FieldType) ∈ TG := List.mem_filter.mpr ⟨List.mem_of_getElem? (i := 515) (by decide +kernel), rfl⟩
theorem wd_516 : Cond.methodLink "DuelSamples$Reach" 33 ⟨"DuelSamples$Course", "begin", "(LDuelSamples$Roster;)V"⟩ ∈ TG := List.mem_filter.mpr ⟨List.mem_of_getElem? (i := 516) (by decide +kernel), rfl⟩
theorem wd_517 : Cond.methodLink "DuelSamples$Reach" 39 ⟨"DuelSamples$Reach", "follow", "(LDuelSamples$Reach;LDuelSamples$Course;LDuelSamples$Roster;II)V"⟩ ∈ TG := List.mem_filter.mpr ⟨List.mem_of_getElem? (i := 517) (by decide +kernel), rfl⟩
theorem wd_518 : Cond.static ⟨"DuelSamples$Reach", "follow", "(LDuelSamples$Reach;LDuelSamples$Course;LDuelSamples$Roster;II)V"⟩ ∈ TG := List.mem_filter.mpr ⟨List.mem_of_getElem? (i := 518) (by decide +kernel), rfl⟩
theorem wd_519 : Cond.code ⟨"DuelSamples$Reach", "follow", "(LDuelSamples$Reach;LDuelSamples$Course;LDuelSamples$Roster;II)V"⟩ prog_3_method_3_code 9 (Option.none : Option Jvm.ClassFile.FieldType) ∈ TG := List.mem_filter.mpr ⟨List.mem_of_getElem? (i := 519) (by decide +kernel), rfl⟩
theorem wd_520 : Cond.methodLink "DuelSamples$Reach" 43 ⟨"DuelSamples$Course", "pick", "(LDuelSamples$Roster;I)Z"⟩ ∈ TG := List.mem_filter.mpr ⟨List.mem_of_getElem? (i := 520) (by decide +kernel), rfl⟩
theorem wd_521 : Cond.methodLink "DuelSamples$Reach" 47 ⟨"DuelSamples$Course", "wholeOnes", "()I"⟩ ∈ TG := List.mem_filter.mpr ⟨List.mem_of_getElem? (i := 521) (by decide +kernel), rfl⟩
theorem wd_522 : Cond.methodLink "DuelSamples$Reach" 51 ⟨"DuelSamples$Reach", "mark", "(I)V"⟩ ∈ TG := List.mem_filter.mpr ⟨List.mem_of_getElem? (i := 522) (by decide +kernel), rfl⟩
theorem wd_524 : Cond.instanceMethod ⟨"DuelSamples$Reach", "mark", "(I)V"⟩ ∈ TG := List.mem_filter.mpr ⟨List.mem_of_getElem? (i := 524) (by decide +kernel), rfl⟩
theorem wd_525 : Cond.code ⟨"DuelSamples$Reach", "mark", "(I)V"⟩ prog_3_method_4_code 2 (Option.none : Option Jvm.ClassFile.FieldType) ∈ TG := List.mem_filter.mpr ⟨List.mem_of_getElem? (i := 525) (by decide +kernel), rfl⟩
theorem wd_526 : Cond.methodLink "DuelSamples$Reach" 61 ⟨"DuelSamples$Course", "leftOf", "(I)I"⟩ ∈ TG := List.mem_filter.mpr ⟨List.mem_of_getElem? (i := 526) (by decide +kernel), rfl⟩
theorem wd_527 : Cond.methodLink "DuelSamples$Reach" 65 ⟨"DuelSamples$Course", "settle", "(Z)V"⟩ ∈ TG := List.mem_filter.mpr ⟨List.mem_of_getElem? (i := 527) (by decide +kernel), rfl⟩
theorem wd_528 : Cond.methodLink "DuelSamples$Reach" 69 ⟨"DuelSamples$Course", "restore", "(IIII)V"⟩ ∈ TG := List.mem_filter.mpr ⟨List.mem_of_getElem? (i := 528) (by decide +kernel), rfl⟩
theorem wd_529 : Cond.instanceMethod ⟨"DuelSamples$Course", "restore", "(IIII)V"⟩ ∈ TG := List.mem_filter.mpr ⟨List.mem_of_getElem? (i := 529) (by decide +kernel), rfl⟩
theorem wd_530 : Cond.selects "DuelSamples$Course" ⟨"DuelSamples$Course", "restore", "(IIII)V"⟩ ⟨"DuelSamples$Course", "restore", "(IIII)V"⟩ ∈ TG := List.mem_filter.mpr ⟨List.mem_of_getElem? (i := 530) (by decide +kernel), rfl⟩
theorem wd_531 : Cond.code ⟨"DuelSamples$Course", "restore", "(IIII)V"⟩ prog_2_method_23_code 5 (Option.none : Option Jvm.ClassFile.FieldType) ∈ TG := List.mem_filter.mpr ⟨List.mem_of_getElem? (i := 531) (by decide +kernel), rfl⟩
theorem wd_532 : Cond.methodLink "DuelSamples" 171 ⟨"DuelSamples$Reach", "howMany", "()I"⟩ ∈ TG := List.mem_filter.mpr ⟨List.mem_of_getElem? (i := 532) (by decide +kernel), rfl⟩
theorem wd_533 : Cond.instanceMethod ⟨"DuelSamples$Reach", "howMany", "()I"⟩ ∈ TG := List.mem_filter.mpr ⟨List.mem_of_getElem? (i := 533) (by decide +kernel), rfl⟩
theorem wd_534 : Cond.selects "DuelSamples$Reach" ⟨"DuelSamples$Reach", "howMany", "()I"⟩ ⟨"DuelSamples$Reach", "howMany", "()I"⟩ ∈ TG := List.mem_filter.mpr ⟨List.mem_of_getElem? (i := 534) (by decide +kernel), rfl⟩
theorem wd_535 : Cond.code ⟨"DuelSamples$Reach", "howMany", "()I"⟩ prog_3_method_6_code 3 (Option.some Jvm.ClassFile.FieldType.int) ∈ TG := List.mem_filter.mpr ⟨List.mem_of_getElem? (i := 535) (by decide +kernel), rfl⟩
theorem wd_536 : Cond.methodLink "DuelSamples$Reach" 73 ⟨"java/lang/Long", "bitCount", "(J)I"⟩ ∈ TG := List.mem_filter.mpr ⟨List.mem_of_getElem? (i := 536) (by decide +kernel), rfl⟩
theorem wd_537 : Cond.static ⟨"java/lang/Long", "bitCount", "(J)I"⟩ ∈ TG := List.mem_filter.mpr ⟨List.mem_of_getElem? (i := 537) (by decide +kernel), rfl⟩
theorem wd_538 : Cond.code ⟨"java/lang/Long", "bitCount", "(J)I"⟩ prog_10_method_50_code 2 (Option.some Jvm.ClassFile.FieldType.int) ∈ TG := List.mem_filter.mpr ⟨List.mem_of_getElem? (i := 538) (by decide +kernel), rfl⟩
theorem wd_539 : Cond.constantLong "java/lang/Long" 314 (6148914691236517205) ∈ TG := List.mem_filter.mpr ⟨List.mem_of_getElem? (i := 539) (by decide +kernel), rfl⟩
theorem wd_540 : Cond.constantLong "java/lang/Long" 316 (3689348814741910323) ∈ TG := List.mem_filter.mpr ⟨List.mem_of_getElem? (i := 540) (by decide +kernel), rfl⟩
theorem wd_541 : Cond.constantLong "java/lang/Long" 318 (1085102592571150095) ∈ TG := List.mem_filter.mpr ⟨List.mem_of_getElem? (i := 541) (by decide +kernel), rfl⟩
theorem wd_542 : Cond.methodLink "DuelSamplesLaw" 89 ⟨"DuelSamples", "sizes", "(I)I"⟩ ∈ TG := List.mem_filter.mpr ⟨List.mem_of_getElem? (i := 542) (by decide +kernel), rfl⟩
theorem wd_543 : Cond.instanceMethod ⟨"DuelSamples", "sizes", "(I)I"⟩ ∈ TG := List.mem_filter.mpr ⟨List.mem_of_getElem? (i := 543) (by decide +kernel), rfl⟩
theorem wd_544 : Cond.selects "DuelSamples" ⟨"DuelSamples", "sizes", "(I)I"⟩ ⟨"DuelSamples", "sizes", "(I)I"⟩ ∈ TG := List.mem_filter.mpr ⟨List.mem_of_getElem? (i := 544) (by decide +kernel), rfl⟩
theorem wd_545 : Cond.code ⟨"DuelSamples", "sizes", "(I)I"⟩ prog_1_method_19_code 2 (Option.some Jvm.ClassFile.FieldType.int) ∈ TG := List.mem_filter.mpr ⟨List.mem_of_getElem? (i := 545) (by decide +kernel), rfl⟩
theorem wd_546 : Cond.methodLink "DuelSamples" 174 ⟨"DuelSamples$Reach", "fewestUnits", "()I"⟩ ∈ TG := List.mem_filter.mpr ⟨List.mem_of_getElem? (i := 546) (by decide +kernel), rfl⟩
theorem wd_547 : Cond.instanceMethod ⟨"DuelSamples$Reach", "fewestUnits", "()I"⟩ ∈ TG := List.mem_filter.mpr ⟨List.mem_of_getElem? (i := 547) (by decide +kernel), rfl⟩
theorem wd_548 : Cond.selects "DuelSamples$Reach" ⟨"DuelSamples$Reach", "fewestUnits", "()I"⟩ ⟨"DuelSamples$Reach", "fewestUnits", "()I"⟩ ∈ TG := List.mem_filter.mpr ⟨List.mem_of_getElem? (i := 548) (by decide +kernel), rfl⟩
theorem wd_549 : Cond.code ⟨"DuelSamples$Reach", "fewestUnits", "()I"⟩ prog_3_method_7_code 3 (Option.some Jvm.ClassFile.FieldType.int) ∈ TG := List.mem_filter.mpr ⟨List.mem_of_getElem? (i := 549) (by decide +kernel), rfl⟩
theorem wd_550 : Cond.methodLink "DuelSamples$Reach" 79 ⟨"DuelSamples$Reach", "isSeen", "(I)Z"⟩ ∈ TG := List.mem_filter.mpr ⟨List.mem_of_getElem? (i := 550) (by decide +kernel), rfl⟩
theorem wd_552 : Cond.instanceMethod ⟨"DuelSamples$Reach", "isSeen", "(I)Z"⟩ ∈ TG := List.mem_filter.mpr ⟨List.mem_of_getElem? (i := 552) (by decide +kernel), rfl⟩
theorem wd_553 : Cond.code ⟨"DuelSamples$Reach", "isSeen", "(I)Z"⟩ prog_3_method_5_code 2 (Option.some Jvm.ClassFile.FieldType.boolean) ∈ TG := List.mem_filter.mpr ⟨List.mem_of_getElem? (i := 553) (by decide +kernel), rfl⟩
theorem wd_554 : Cond.methodLink "DuelSamples$Reach" 83 ⟨"java/lang/Integer", "bitCount", "(I)I"⟩ ∈ TG := List.mem_filter.mpr ⟨List.mem_of_getElem? (i := 554) (by decide +kernel), rfl⟩
theorem wd_555 : Cond.methodLink "DuelSamples$Reach" 87 ⟨"java/lang/Math", "min", "(II)I"⟩ ∈ TG := List.mem_filter.mpr ⟨List.mem_of_getElem? (i := 555) (by decide +kernel), rfl⟩
theorem wd_556 : Cond.methodLink "DuelSamples" 177 ⟨"DuelSamples$Reach", "mostUnits", "()I"⟩ ∈ TG := List.mem_filter.mpr ⟨List.mem_of_getElem? (i := 556) (by decide +kernel), rfl⟩
theorem wd_557 : Cond.instanceMethod ⟨"DuelSamples$Reach", "mostUnits", "()I"⟩ ∈ TG := List.mem_filter.mpr ⟨List.mem_of_getElem? (i := 557) (by decide +kernel), rfl⟩
theorem wd_558 : Cond.selects "DuelSamples$Reach" ⟨"DuelSamples$Reach", "mostUnits", "()I"⟩ ⟨"DuelSamples$Reach", "mostUnits", "()I"⟩ ∈ TG := List.mem_filter.mpr ⟨List.mem_of_getElem? (i := 558) (by decide +kernel), rfl⟩
theorem wd_559 : Cond.code ⟨"DuelSamples$Reach", "mostUnits", "()I"⟩ prog_3_method_8_code 3 (Option.some Jvm.ClassFile.FieldType.int) ∈ TG := List.mem_filter.mpr ⟨List.mem_of_getElem? (i := 559) (by decide +kernel), rfl⟩
theorem wd_560 : Cond.methodLink "DuelSamples$Reach" 93 ⟨"java/lang/Math", "max", "(II)I"⟩ ∈ TG := List.mem_filter.mpr ⟨List.mem_of_getElem? (i := 560) (by decide +kernel), rfl⟩
theorem wd_561 : Cond.static ⟨"java/lang/Math", "max", "(II)I"⟩ ∈ TG := List.mem_filter.mpr ⟨List.mem_of_getElem? (i := 561) (by decide +kernel), rfl⟩
theorem wd_562 : Cond.code ⟨"java/lang/Math", "max", "(II)I"⟩ prog_11_method_65_code 2 (Option.some Jvm.ClassFile.FieldType.int) ∈ TG := List.mem_filter.mpr ⟨List.mem_of_getElem? (i := 562) (by decide +kernel), rfl⟩
theorem wd_563 : Cond.methodLink "DuelSamplesLaw" 93 ⟨"DuelSamples", "can", "(II)I"⟩ ∈ TG := List.mem_filter.mpr ⟨List.mem_of_getElem? (i := 563) (by decide +kernel), rfl⟩
theorem wd_564 : Cond.instanceMethod ⟨"DuelSamples", "can", "(II)I"⟩ ∈ TG := List.mem_filter.mpr ⟨List.mem_of_getElem? (i := 564) (by decide +kernel), rfl⟩
theorem wd_565 : Cond.selects "DuelSamples" ⟨"DuelSamples", "can", "(II)I"⟩ ⟨"DuelSamples", "can", "(II)I"⟩ ∈ TG := List.mem_filter.mpr ⟨List.mem_of_getElem? (i := 565) (by decide +kernel), rfl⟩
theorem wd_566 : Cond.code ⟨"DuelSamples", "can", "(II)I"⟩ prog_1_method_20_code 3 (Option.some Jvm.ClassFile.FieldType.int) ∈ TG := List.mem_filter.mpr ⟨List.mem_of_getElem? (i := 566) (by decide +kernel), rfl⟩
theorem wd_567 : Cond.methodLink "DuelSamples" 180 ⟨"DuelSamples$Reach", "hasWith", "(I)Z"⟩ ∈ TG := List.mem_filter.mpr ⟨List.mem_of_getElem? (i := 567) (by decide +kernel), rfl⟩
theorem wd_568 : Cond.instanceMethod ⟨"DuelSamples$Reach", "hasWith", "(I)Z"⟩ ∈ TG := List.mem_filter.mpr ⟨List.mem_of_getElem? (i := 568) (by decide +kernel), rfl⟩
theorem wd_569 : Cond.selects "DuelSamples$Reach" ⟨"DuelSamples$Reach", "hasWith", "(I)Z"⟩ ⟨"DuelSamples$Reach", "hasWith", "(I)Z"⟩ ∈ TG := List.mem_filter.mpr ⟨List.mem_of_getElem? (i := 569) (by decide +kernel), rfl⟩
theorem wd_570 : Cond.code ⟨"DuelSamples$Reach", "hasWith", "(I)Z"⟩ prog_3_method_9_code 3 (Option.some Jvm.ClassFile.FieldType.boolean) ∈ TG := List.mem_filter.mpr ⟨List.mem_of_getElem? (i := 570) (by decide +kernel), rfl⟩
theorem wd_571 : Cond.methodLink "DuelSamplesLaw" 97 ⟨"DuelSamples", "least", "()J"⟩ ∈ TG := List.mem_filter.mpr ⟨List.mem_of_getElem? (i := 571) (by decide +kernel), rfl⟩
theorem wd_572 : Cond.instanceMethod ⟨"DuelSamples", "least", "()J"⟩ ∈ TG := List.mem_filter.mpr ⟨List.mem_of_getElem? (i := 572) (by decide +kernel), rfl⟩
theorem wd_573 : Cond.selects "DuelSamples" ⟨"DuelSamples", "least", "()J"⟩ ⟨"DuelSamples", "least", "()J"⟩ ∈ TG := List.mem_filter.mpr ⟨List.mem_of_getElem? (i := 573) (by decide +kernel), rfl⟩
theorem wd_574 : Cond.code ⟨"DuelSamples", "least", "()J"⟩ prog_1_method_21_code 1 (Option.some Jvm.ClassFile.FieldType.long) ∈ TG := List.mem_filter.mpr ⟨List.mem_of_getElem? (i := 574) (by decide +kernel), rfl⟩
theorem wd_575 : Cond.methodLink "DuelSamples" 183 ⟨"DuelSamples$Reach", "leastMiss", "(LDuelSamples$Roster;)J"⟩ ∈ TG := List.mem_filter.mpr ⟨List.mem_of_getElem? (i := 575) (by decide +kernel), rfl⟩
theorem wd_576 : Cond.instanceMethod ⟨"DuelSamples$Reach", "leastMiss", "(LDuelSamples$Roster;)J"⟩ ∈ TG := List.mem_filter.mpr ⟨List.mem_of_getElem? (i := 576) (by decide +kernel), rfl⟩
theorem wd_577 : Cond.selects "DuelSamples$Reach" ⟨"DuelSamples$Reach", "leastMiss", "(LDuelSamples$Roster;)J"⟩ ⟨"DuelSamples$Reach", "leastMiss", "(LDuelSamples$Roster;)J"⟩ ∈ TG := List.mem_filter.mpr ⟨List.mem_of_getElem? (i := 577) (by decide +kernel), rfl⟩
theorem wd_578 : Cond.code ⟨"DuelSamples$Reach", "leastMiss", "(LDuelSamples$Roster;)J"⟩ prog_3_method_10_code 5 (Option.some Jvm.ClassFile.FieldType.long) ∈ TG := List.mem_filter.mpr ⟨List.mem_of_getElem? (i := 578) (by decide +kernel), rfl⟩
theorem wd_579 : Cond.constantLong "DuelSamples$Reach" 96 (9223372036854775807) ∈ TG := List.mem_filter.mpr ⟨List.mem_of_getElem? (i := 579) (by decide +kernel), rfl⟩
theorem wd_580 : Cond.methodLink "DuelSamples$Reach" 98 ⟨"DuelSamples$Roster", "miss", "(I)J"⟩ ∈ TG := List.mem_filter.mpr ⟨List.mem_of_getElem? (i := 580) (by decide +kernel), rfl⟩
theorem wd_581 : Cond.methodLink "DuelSamples$Reach" 102 ⟨"java/lang/Math", "min", "(JJ)J"⟩ ∈ TG := List.mem_filter.mpr ⟨List.mem_of_getElem? (i := 581) (by decide +kernel), rfl⟩
theorem wd_582 : Cond.static ⟨"java/lang/Math", "min", "(JJ)J"⟩ ∈ TG := List.mem_filter.mpr ⟨List.mem_of_getElem? (i := 582) (by decide +kernel), rfl⟩
theorem wd_583 : Cond.code ⟨"java/lang/Math", "min", "(JJ)J"⟩ prog_11_method_70_code 4 (Option.some Jvm.ClassFile.FieldType.long) ∈ TG := List.mem_filter.mpr ⟨List.mem_of_getElem? (i := 583) (by decide +kernel), rfl⟩
theorem wd_584 : Cond.methodLink "DuelSamplesLaw" 102 ⟨"DuelSamples", "type", "(I)I"⟩ ∈ TG := List.mem_filter.mpr ⟨List.mem_of_getElem? (i := 584) (by decide +kernel), rfl⟩
theorem wd_585 : Cond.instanceMethod ⟨"DuelSamples", "type", "(I)I"⟩ ∈ TG := List.mem_filter.mpr ⟨List.mem_of_getElem? (i := 585) (by decide +kernel), rfl⟩
theorem wd_586 : Cond.selects "DuelSamples" ⟨"DuelSamples", "type", "(I)I"⟩ ⟨"DuelSamples", "type", "(I)I"⟩ ∈ TG := List.mem_filter.mpr ⟨List.mem_of_getElem? (i := 586) (by decide +kernel), rfl⟩
theorem wd_587 : Cond.code ⟨"DuelSamples", "type", "(I)I"⟩ prog_1_method_22_code 2 (Option.some Jvm.ClassFile.FieldType.int) ∈ TG := List.mem_filter.mpr ⟨List.mem_of_getElem? (i := 587) (by decide +kernel), rfl⟩
theorem wd_588 : Cond.methodLink "DuelSamples" 190 ⟨"DuelSamples$Script", "append", "(I)I"⟩ ∈ TG := List.mem_filter.mpr ⟨List.mem_of_getElem? (i := 588) (by decide +kernel), rfl⟩
theorem wd_589 : Cond.instanceMethod ⟨"DuelSamples$Script", "append", "(I)I"⟩ ∈ TG := List.mem_filter.mpr ⟨List.mem_of_getElem? (i := 589) (by decide +kernel), rfl⟩
theorem wd_590 : Cond.selects "DuelSamples$Script" ⟨"DuelSamples$Script", "append", "(I)I"⟩ ⟨"DuelSamples$Script", "append", "(I)I"⟩ ∈ TG := List.mem_filter.mpr ⟨List.mem_of_getElem? (i := 590) (by decide +kernel), rfl⟩
theorem wd_591 : Cond.code ⟨"DuelSamples$Script", "append", "(I)I"⟩ prog_6_method_4_code 2 (Option.some Jvm.ClassFile.FieldType.int) ∈ TG := List.mem_filter.mpr ⟨List.mem_of_getElem? (i := 591) (by decide +kernel), rfl⟩
theorem wd_592 : Cond.methodLink "DuelSamplesLaw" 106 ⟨"DuelSamples", "clear", "()I"⟩ ∈ TG := List.mem_filter.mpr ⟨List.mem_of_getElem? (i := 592) (by decide +kernel), rfl⟩
theorem wd_593 : Cond.instanceMethod ⟨"DuelSamples", "clear", "()I"⟩ ∈ TG := List.mem_filter.mpr ⟨List.mem_of_getElem? (i := 593) (by decide +kernel), rfl⟩
theorem wd_594 : Cond.selects "DuelSamples" ⟨"DuelSamples", "clear", "()I"⟩ ⟨"DuelSamples", "clear", "()I"⟩ ∈ TG := List.mem_filter.mpr ⟨List.mem_of_getElem? (i := 594) (by decide +kernel), rfl⟩
theorem wd_595 : Cond.code ⟨"DuelSamples", "clear", "()I"⟩ prog_1_method_23_code 2 (Option.some Jvm.ClassFile.FieldType.int) ∈ TG := List.mem_filter.mpr ⟨List.mem_of_getElem? (i := 595) (by decide +kernel), rfl⟩
theorem wd_596 : Cond.methodLink "DuelSamplesLaw" 110 ⟨"DuelSamples", "says", "()I"⟩ ∈ TG := List.mem_filter.mpr ⟨List.mem_of_getElem? (i := 596) (by decide +kernel), rfl⟩
theorem wd_597 : Cond.instanceMethod ⟨"DuelSamples", "says", "()I"⟩ ∈ TG := List.mem_filter.mpr ⟨List.mem_of_getElem? (i := 597) (by decide +kernel), rfl⟩
theorem wd_598 : Cond.selects "DuelSamples" ⟨"DuelSamples", "says", "()I"⟩ ⟨"DuelSamples", "says", "()I"⟩ ∈ TG := List.mem_filter.mpr ⟨List.mem_of_getElem? (i := 598) (by decide +kernel), rfl⟩
theorem wd_599 : Cond.code ⟨"DuelSamples", "says", "()I"⟩ prog_1_method_24_code 3 (Option.some Jvm.ClassFile.FieldType.int) ∈ TG := List.mem_filter.mpr ⟨List.mem_of_getElem? (i := 599) (by decide +kernel), rfl⟩
theorem wd_600 : Cond.methodLink "DuelSamples" 192 ⟨"DuelSamples$Script", "read", "(I)I"⟩ ∈ TG := List.mem_filter.mpr ⟨List.mem_of_getElem? (i := 600) (by decide +kernel), rfl⟩
theorem wd_601 : Cond.instanceMethod ⟨"DuelSamples$Script", "read", "(I)I"⟩ ∈ TG := List.mem_filter.mpr ⟨List.mem_of_getElem? (i := 601) (by decide +kernel), rfl⟩
theorem wd_602 : Cond.selects "DuelSamples$Script" ⟨"DuelSamples$Script", "read", "(I)I"⟩ ⟨"DuelSamples$Script", "read", "(I)I"⟩ ∈ TG := List.mem_filter.mpr ⟨List.mem_of_getElem? (i := 602) (by decide +kernel), rfl⟩
theorem wd_603 : Cond.code ⟨"DuelSamples$Script", "read", "(I)I"⟩ prog_6_method_7_code 4 (Option.some Jvm.ClassFile.FieldType.int) ∈ TG := List.mem_filter.mpr ⟨List.mem_of_getElem? (i := 603) (by decide +kernel), rfl⟩
theorem wd_604 : Cond.methodLink "DuelSamples$Script" 63 ⟨"DuelSamples$Script", "skipBlanks", "()V"⟩ ∈ TG := List.mem_filter.mpr ⟨List.mem_of_getElem? (i := 604) (by decide +kernel), rfl⟩
theorem wd_606 : Cond.instanceMethod ⟨"DuelSamples$Script", "skipBlanks", "()V"⟩ ∈ TG := List.mem_filter.mpr ⟨List.mem_of_getElem? (i := 606) (by decide +kernel), rfl⟩
theorem wd_607 : Cond.code ⟨"DuelSamples$Script", "skipBlanks", "()V"⟩ prog_6_method_11_code 2 (Option.none : Option Jvm.ClassFile.FieldType) ∈ TG := List.mem_filter.mpr ⟨List.mem_of_getElem? (i := 607) (by decide +kernel), rfl⟩
theorem wd_608 : Cond.methodLink "DuelSamples$Script" 84 ⟨"DuelSamples$Script", "byteAt", "(I)I"⟩ ∈ TG := List.mem_filter.mpr ⟨List.mem_of_getElem? (i := 608) (by decide +kernel), rfl⟩
theorem wd_610 : Cond.instanceMethod ⟨"DuelSamples$Script", "byteAt", "(I)I"⟩ ∈ TG := List.mem_filter.mpr ⟨List.mem_of_getElem? (i := 610) (by decide +kernel), rfl⟩
theorem wd_611 : Cond.code ⟨"DuelSamples$Script", "byteAt", "(I)I"⟩ prog_6_method_10_code 2 (Option.some Jvm.ClassFile.FieldType.int) ∈ TG := List.mem_filter.mpr ⟨List.mem_of_getElem? (i := 611) (by decide +kernel), rfl⟩
theorem wd_612 : Cond.methodLink "DuelSamples$Script" 66 ⟨"DuelSamples$Script", "readSentence", "()I"⟩ ∈ TG := List.mem_filter.mpr ⟨List.mem_of_getElem? (i := 612) (by decide +kernel), rfl⟩
theorem wd_614 : Cond.instanceMethod ⟨"DuelSamples$Script", "readSentence", "()I"⟩ ∈ TG := List.mem_filter.mpr ⟨List.mem_of_getElem? (i := 614) (by decide +kernel), rfl⟩
theorem wd_615 : Cond.code ⟨"DuelSamples$Script", "readSentence", "()I"⟩ prog_6_method_8_code 6 (Option.some Jvm.ClassFile.FieldType.int) ∈ TG := List.mem_filter.mpr ⟨List.mem_of_getElem? (i := 615) (by decide +kernel), rfl⟩
theorem wd_616 : Cond.methodLink "DuelSamples$Script" 70 ⟨"DuelSamples$Script", "readWord", "()I"⟩ ∈ TG := List.mem_filter.mpr ⟨List.mem_of_getElem? (i := 616) (by decide +kernel), rfl⟩
theorem wd_618 : Cond.instanceMethod ⟨"DuelSamples$Script", "readWord", "()I"⟩ ∈ TG := List.mem_filter.mpr ⟨List.mem_of_getElem? (i := 618) (by decide +kernel), rfl⟩
theorem wd_619 : Cond.code ⟨"DuelSamples$Script", "readWord", "()I"⟩ prog_6_method_12_code 3 (Option.some Jvm.ClassFile.FieldType.int) ∈ TG := List.mem_filter.mpr ⟨List.mem_of_getElem? (i := 619) (by decide +kernel), rfl⟩
theorem wd_620 : Cond.methodLink "DuelSamples$Script" 97 ⟨"DuelSamples$Script", "word", "(I)Ljava/lang/String;"⟩ ∈ TG := List.mem_filter.mpr ⟨List.mem_of_getElem? (i := 620) (by decide +kernel), rfl⟩
theorem wd_621 : Cond.static ⟨"DuelSamples$Script", "word", "(I)Ljava/lang/String;"⟩ ∈ TG := List.mem_filter.mpr ⟨List.mem_of_getElem? (i := 621) (by decide +kernel), rfl⟩
theorem wd_622 : Cond.code ⟨"DuelSamples$Script", "word", "(I)Ljava/lang/String;"⟩ prog_6_method_2_code 1 (Option.some (Jvm.ClassFile.FieldType.object "java/lang/String")) ∈ TG := List.mem_filter.mpr ⟨List.mem_of_getElem? (i := 622) (by decide +kernel), rfl⟩
theorem wd_637 : Cond.methodLink "DuelSamples$Script" 101 ⟨"DuelSamples$Script", "stands", "(Ljava/lang/String;II)Z"⟩ ∈ TG := List.mem_filter.mpr ⟨List.mem_of_getElem? (i := 637) (by decide +kernel), rfl⟩
theorem wd_639 : Cond.instanceMethod ⟨"DuelSamples$Script", "stands", "(Ljava/lang/String;II)Z"⟩ ∈ TG := List.mem_filter.mpr ⟨List.mem_of_getElem? (i := 639) (by decide +kernel), rfl⟩
theorem wd_640 : Cond.code ⟨"DuelSamples$Script", "stands", "(Ljava/lang/String;II)Z"⟩ prog_6_method_13_code 5 (Option.some Jvm.ClassFile.FieldType.boolean) ∈ TG := List.mem_filter.mpr ⟨List.mem_of_getElem? (i := 640) (by decide +kernel), rfl⟩
theorem wd_641 : Cond.methodLink "DuelSamples$Script" 105 ⟨"java/lang/String", "length", "()I"⟩ ∈ TG := List.mem_filter.mpr ⟨List.mem_of_getElem? (i := 641) (by decide +kernel), rfl⟩
theorem wd_642 : Cond.instanceMethod ⟨"java/lang/String", "length", "()I"⟩ ∈ TG := List.mem_filter.mpr ⟨List.mem_of_getElem? (i := 642) (by decide +kernel), rfl⟩
theorem wd_643 : Cond.selects "java/lang/String" ⟨"java/lang/String", "length", "()I"⟩ ⟨"java/lang/String", "length", "()I"⟩ ∈ TG := List.mem_filter.mpr ⟨List.mem_of_getElem? (i := 643) (by decide +kernel), rfl⟩
theorem wd_644 : Cond.code ⟨"java/lang/String", "length", "()I"⟩ prog_12_method_54_code 1 (Option.some Jvm.ClassFile.FieldType.int) ∈ TG := List.mem_filter.mpr ⟨List.mem_of_getElem? (i := 644) (by decide +kernel), rfl⟩
theorem wd_645 : Cond.methodLink "java/lang/String" 335 ⟨"java/lang/String", "coder", "()B"⟩ ∈ TG := List.mem_filter.mpr ⟨List.mem_of_getElem? (i := 645) (by decide +kernel), rfl⟩
theorem wd_646 : Cond.instanceMethod ⟨"java/lang/String", "coder", "()B"⟩ ∈ TG := List.mem_filter.mpr ⟨List.mem_of_getElem? (i := 646) (by decide +kernel), rfl⟩
theorem wd_647 : Cond.selects "java/lang/String" ⟨"java/lang/String", "coder", "()B"⟩ ⟨"java/lang/String", "coder", "()B"⟩ ∈ TG := List.mem_filter.mpr ⟨List.mem_of_getElem? (i := 647) (by decide +kernel), rfl⟩
theorem wd_648 : Cond.code ⟨"java/lang/String", "coder", "()B"⟩ prog_12_method_152_code 1 (Option.some Jvm.ClassFile.FieldType.byte) ∈ TG := List.mem_filter.mpr ⟨List.mem_of_getElem? (i := 648) (by decide +kernel), rfl⟩
theorem wd_649 : Cond.fieldLink "java/lang/String" 38 "java/lang/String" "COMPACT_STRINGS" "Z" ∈ TG := List.mem_filter.mpr ⟨List.mem_of_getElem? (i := 649) (by decide +kernel), rfl⟩
theorem wd_651 : Cond.methodLink "DuelSamples$Script" 109 ⟨"java/lang/String", "charAt", "(I)C"⟩ ∈ TG := List.mem_filter.mpr ⟨List.mem_of_getElem? (i := 651) (by decide +kernel), rfl⟩
theorem wd_652 : Cond.instanceMethod ⟨"java/lang/String", "charAt", "(I)C"⟩ ∈ TG := List.mem_filter.mpr ⟨List.mem_of_getElem? (i := 652) (by decide +kernel), rfl⟩
theorem wd_653 : Cond.selects "java/lang/String" ⟨"java/lang/String", "charAt", "(I)C"⟩ ⟨"java/lang/String", "charAt", "(I)C"⟩ ∈ TG := List.mem_filter.mpr ⟨List.mem_of_getElem? (i := 653) (by decide +kernel), rfl⟩
theorem wd_654 : Cond.code ⟨"java/lang/String", "charAt", "(I)C"⟩ prog_12_method_56_code 2 (Option.some Jvm.ClassFile.FieldType.char) ∈ TG := List.mem_filter.mpr ⟨List.mem_of_getElem? (i := 654) (by decide +kernel), rfl⟩
theorem wd_655 : Cond.methodLink "java/lang/String" 492 ⟨"java/lang/String", "isLatin1", "()Z"⟩ ∈ TG := List.mem_filter.mpr ⟨List.mem_of_getElem? (i := 655) (by decide +kernel), rfl⟩
theorem wd_656 : Cond.instanceMethod ⟨"java/lang/String", "isLatin1", "()Z"⟩ ∈ TG := List.mem_filter.mpr ⟨List.mem_of_getElem? (i := 656) (by decide +kernel), rfl⟩
theorem wd_657 : Cond.selects "java/lang/String" ⟨"java/lang/String", "isLatin1", "()Z"⟩ ⟨"java/lang/String", "isLatin1", "()Z"⟩ ∈ TG := List.mem_filter.mpr ⟨List.mem_of_getElem? (i := 657) (by decide +kernel), rfl⟩
theorem wd_658 : Cond.code ⟨"java/lang/String", "isLatin1", "()Z"⟩ prog_12_method_154_code 1 (Option.some Jvm.ClassFile.FieldType.boolean) ∈ TG := List.mem_filter.mpr ⟨List.mem_of_getElem? (i := 658) (by decide +kernel), rfl⟩
theorem wd_659 : Cond.methodLink "java/lang/String" 495 ⟨"java/lang/StringLatin1", "charAt", "([BI)C"⟩ ∈ TG := List.mem_filter.mpr ⟨List.mem_of_getElem? (i := 659) (by decide +kernel), rfl⟩
theorem wd_660 : Cond.static ⟨"java/lang/StringLatin1", "charAt", "([BI)C"⟩ ∈ TG := List.mem_filter.mpr ⟨List.mem_of_getElem? (i := 660) (by decide +kernel), rfl⟩
theorem wd_661 : Cond.code ⟨"java/lang/StringLatin1", "charAt", "([BI)C"⟩ prog_13_method_2_code 2 (Option.some Jvm.ClassFile.FieldType.char) ∈ TG := List.mem_filter.mpr ⟨List.mem_of_getElem? (i := 661) (by decide +kernel), rfl⟩
theorem wd_662 : Cond.methodLink "java/lang/StringLatin1" 9 ⟨"java/lang/String", "checkIndex", "(II)V"⟩ ∈ TG := List.mem_filter.mpr ⟨List.mem_of_getElem? (i := 662) (by decide +kernel), rfl⟩
theorem wd_663 : Cond.static ⟨"java/lang/String", "checkIndex", "(II)V"⟩ ∈ TG := List.mem_filter.mpr ⟨List.mem_of_getElem? (i := 663) (by decide +kernel), rfl⟩
theorem wd_664 : Cond.code ⟨"java/lang/String", "checkIndex", "(II)V"⟩ prog_12_method_155_code 2 (Option.none : Option Jvm.ClassFile.FieldType) ∈ TG := List.mem_filter.mpr ⟨List.mem_of_getElem? (i := 664) (by decide +kernel), rfl⟩
theorem wd_665 : Cond.fieldLink "java/lang/String" 1053 "jdk/internal/util/Preconditions" "SIOOBE_FORMATTER" "Ljava/util/function/BiFunction;" ∈ TG := List.mem_filter.mpr ⟨List.mem_of_getElem? (i := 665) (by decide +kernel), rfl⟩
theorem wd_667 : Cond.methodLink "java/lang/String" 1059 ⟨"jdk/internal/util/Preconditions", "checkIndex", "(IILjava/util/function/BiFunction;)I"⟩ ∈ TG := List.mem_filter.mpr ⟨List.mem_of_getElem? (i := 667) (by decide +kernel), rfl⟩
theorem wd_668 : Cond.static ⟨"jdk/internal/util/Preconditions", "checkIndex", "(IILjava/util/function/BiFunction;)I"⟩ ∈ TG := List.mem_filter.mpr ⟨List.mem_of_getElem? (i := 668) (by decide +kernel), rfl⟩
theorem wd_669 : Cond.code ⟨"jdk/internal/util/Preconditions", "checkIndex", "(IILjava/util/function/BiFunction;)I"⟩ prog_16_method_11_code 3 (Option.some Jvm.ClassFile.FieldType.int) ∈ TG := List.mem_filter.mpr ⟨List.mem_of_getElem? (i := 669) (by decide +kernel), rfl⟩
theorem wd_670 : Cond.methodLink "java/lang/String" 498 ⟨"java/lang/StringUTF16", "charAt", "([BI)C"⟩ ∈ TG := List.mem_filter.mpr ⟨List.mem_of_getElem? (i := 670) (by decide +kernel), rfl⟩
theorem wd_671 : Cond.static ⟨"java/lang/StringUTF16", "charAt", "([BI)C"⟩ ∈ TG := List.mem_filter.mpr ⟨List.mem_of_getElem? (i := 671) (by decide +kernel), rfl⟩
theorem wd_672 : Cond.code ⟨"java/lang/StringUTF16", "charAt", "([BI)C"⟩ prog_14_method_83_code 2 (Option.some Jvm.ClassFile.FieldType.char) ∈ TG := List.mem_filter.mpr ⟨List.mem_of_getElem? (i := 672) (by decide +kernel), rfl⟩
theorem wd_673 : Cond.methodLink "java/lang/StringUTF16" 67 ⟨"java/lang/StringUTF16", "checkIndex", "(I[B)V"⟩ ∈ TG := List.mem_filter.mpr ⟨List.mem_of_getElem? (i := 673) (by decide +kernel), rfl⟩
theorem wd_674 : Cond.static ⟨"java/lang/StringUTF16", "checkIndex", "(I[B)V"⟩ ∈ TG := List.mem_filter.mpr ⟨List.mem_of_getElem? (i := 674) (by decide +kernel), rfl⟩
theorem wd_675 : Cond.code ⟨"java/lang/StringUTF16", "checkIndex", "(I[B)V"⟩ prog_14_method_91_code 2 (Option.none : Option Jvm.ClassFile.FieldType) ∈ TG := List.mem_filter.mpr ⟨List.mem_of_getElem? (i := 675) (by decide +kernel), rfl⟩
theorem wd_676 : Cond.methodLink "java/lang/StringUTF16" 48 ⟨"java/lang/StringUTF16", "length", "([B)I"⟩ ∈ TG := List.mem_filter.mpr ⟨List.mem_of_getElem? (i := 676) (by decide +kernel), rfl⟩
theorem wd_677 : Cond.static ⟨"java/lang/StringUTF16", "length", "([B)I"⟩ ∈ TG := List.mem_filter.mpr ⟨List.mem_of_getElem? (i := 677) (by decide +kernel), rfl⟩
theorem wd_678 : Cond.code ⟨"java/lang/StringUTF16", "length", "([B)I"⟩ prog_14_method_6_code 1 (Option.some Jvm.ClassFile.FieldType.int) ∈ TG := List.mem_filter.mpr ⟨List.mem_of_getElem? (i := 678) (by decide +kernel), rfl⟩
theorem wd_679 : Cond.methodLink "java/lang/StringUTF16" 414 ⟨"java/lang/String", "checkIndex", "(II)V"⟩ ∈ TG := List.mem_filter.mpr ⟨List.mem_of_getElem? (i := 679) (by decide +kernel), rfl⟩
theorem wd_680 : Cond.methodLink "java/lang/StringUTF16" 71 ⟨"java/lang/StringUTF16", "getChar", "([BI)C"⟩ ∈ TG := List.mem_filter.mpr ⟨List.mem_of_getElem? (i := 680) (by decide +kernel), rfl⟩
theorem wd_681 : Cond.static ⟨"java/lang/StringUTF16", "getChar", "([BI)C"⟩ ∈ TG := List.mem_filter.mpr ⟨List.mem_of_getElem? (i := 681) (by decide +kernel), rfl⟩
theorem wd_682 : Cond.code ⟨"java/lang/StringUTF16", "getChar", "([BI)C"⟩ prog_14_method_5_code 2 (Option.some Jvm.ClassFile.FieldType.char) ∈ TG := List.mem_filter.mpr ⟨List.mem_of_getElem? (i := 682) (by decide +kernel), rfl⟩
theorem wd_683 : Cond.fieldLink "java/lang/StringUTF16" 44 "java/lang/StringUTF16" "$assertionsDisabled" "Z" ∈ TG := List.mem_filter.mpr ⟨List.mem_of_getElem? (i := 683) (by decide +kernel), rfl⟩
theorem wd_685 : Cond.fieldLink "java/lang/StringUTF16" 59 "java/lang/StringUTF16" "HI_BYTE_SHIFT" "I" ∈ TG := List.mem_filter.mpr ⟨List.mem_of_getElem? (i := 685) (by decide +kernel), rfl⟩
theorem wd_687 : Cond.fieldLink "java/lang/StringUTF16" 63 "java/lang/StringUTF16" "LO_BYTE_SHIFT" "I" ∈ TG := List.mem_filter.mpr ⟨List.mem_of_getElem? (i := 687) (by decide +kernel), rfl⟩
theorem wd_689 : Cond.methodLink "DuelSamples$Script" 73 ⟨"DuelSamples$Script", "numbersBehind", "(I)I"⟩ ∈ TG := List.mem_filter.mpr ⟨List.mem_of_getElem? (i := 689) (by decide +kernel), rfl⟩
theorem wd_690 : Cond.static ⟨"DuelSamples$Script", "numbersBehind", "(I)I"⟩ ∈ TG := List.mem_filter.mpr ⟨List.mem_of_getElem? (i := 690) (by decide +kernel), rfl⟩
theorem wd_691 : Cond.code ⟨"DuelSamples$Script", "numbersBehind", "(I)I"⟩ prog_6_method_3_code 1 (Option.some Jvm.ClassFile.FieldType.int) ∈ TG := List.mem_filter.mpr ⟨List.mem_of_getElem? (i := 691) (by decide +kernel), rfl⟩
theorem wd_692 : Cond.methodLink "DuelSamples$Script" 77 ⟨"DuelSamples$Script", "readNumber", "(I)I"⟩ ∈ TG := List.mem_filter.mpr ⟨List.mem_of_getElem? (i := 692) (by decide +kernel), rfl⟩
theorem wd_694 : Cond.instanceMethod ⟨"DuelSamples$Script", "readNumber", "(I)I"⟩ ∈ TG := List.mem_filter.mpr ⟨List.mem_of_getElem? (i := 694) (by decide +kernel), rfl⟩
theorem wd_695 : Cond.code ⟨"DuelSamples$Script", "readNumber", "(I)I"⟩ prog_6_method_14_code 5 (Option.some Jvm.ClassFile.FieldType.int) ∈ TG := List.mem_filter.mpr ⟨List.mem_of_getElem? (i := 695) (by decide +kernel), rfl⟩
theorem wd_696 : Cond.methodLink "DuelSamples$Script" 80 ⟨"DuelSamples$Script", "mayStand", "(III)Z"⟩ ∈ TG := List.mem_filter.mpr ⟨List.mem_of_getElem? (i := 696) (by decide +kernel), rfl⟩
theorem wd_698 : Cond.instanceMethod ⟨"DuelSamples$Script", "mayStand", "(III)Z"⟩ ∈ TG := List.mem_filter.mpr ⟨List.mem_of_getElem? (i := 698) (by decide +kernel), rfl⟩
theorem wd_699 : Cond.code ⟨"DuelSamples$Script", "mayStand", "(III)Z"⟩ prog_6_method_9_code 4 (Option.some Jvm.ClassFile.FieldType.boolean) ∈ TG := List.mem_filter.mpr ⟨List.mem_of_getElem? (i := 699) (by decide +kernel), rfl⟩
theorem wn_700 : Cond.methodLinkNest "DuelSamples$Script" 87 ⟨"DuelSamples", "isSeed", "(I)Z"⟩ "DuelSamples" ∈ NW := List.mem_filter.mpr ⟨List.mem_of_getElem? (i := 700) (by decide +kernel), rfl⟩
theorem wd_701 : Cond.methodLink "DuelSamples$Script" 91 ⟨"DuelSamples$Roster", "fits", "(II)Z"⟩ ∈ TG := List.mem_filter.mpr ⟨List.mem_of_getElem? (i := 701) (by decide +kernel), rfl⟩
theorem wd_702 : Cond.methodLink "DuelSamples" 199 ⟨"DuelSamples$Reply", "put", "(I)V"⟩ ∈ TG := List.mem_filter.mpr ⟨List.mem_of_getElem? (i := 702) (by decide +kernel), rfl⟩
theorem wd_703 : Cond.instanceMethod ⟨"DuelSamples$Reply", "put", "(I)V"⟩ ∈ TG := List.mem_filter.mpr ⟨List.mem_of_getElem? (i := 703) (by decide +kernel), rfl⟩
theorem wd_704 : Cond.selects "DuelSamples$Reply" ⟨"DuelSamples$Reply", "put", "(I)V"⟩ ⟨"DuelSamples$Reply", "put", "(I)V"⟩ ∈ TG := List.mem_filter.mpr ⟨List.mem_of_getElem? (i := 704) (by decide +kernel), rfl⟩
theorem wd_705 : Cond.code ⟨"DuelSamples$Reply", "put", "(I)V"⟩ prog_4_method_3_code 2 (Option.none : Option Jvm.ClassFile.FieldType) ∈ TG := List.mem_filter.mpr ⟨List.mem_of_getElem? (i := 705) (by decide +kernel), rfl⟩
theorem wd_706 : Cond.methodLink "DuelSamples" 203 ⟨"DuelSamples", "perform", "(I)V"⟩ ∈ TG := List.mem_filter.mpr ⟨List.mem_of_getElem? (i := 706) (by decide +kernel), rfl⟩
theorem wd_708 : Cond.instanceMethod ⟨"DuelSamples", "perform", "(I)V"⟩ ∈ TG := List.mem_filter.mpr ⟨List.mem_of_getElem? (i := 708) (by decide +kernel), rfl⟩
theorem wd_709 : Cond.code ⟨"DuelSamples", "perform", "(I)V"⟩ prog_1_method_36_code 3 (Option.none : Option Jvm.ClassFile.FieldType) ∈ TG := List.mem_filter.mpr ⟨List.mem_of_getElem? (i := 709) (by decide +kernel), rfl⟩
theorem wd_710 : Cond.methodLink "DuelSamples" 230 ⟨"DuelSamples$Script", "verb", "(I)I"⟩ ∈ TG := List.mem_filter.mpr ⟨List.mem_of_getElem? (i := 710) (by decide +kernel), rfl⟩
theorem wd_711 : Cond.instanceMethod ⟨"DuelSamples$Script", "verb", "(I)I"⟩ ∈ TG := List.mem_filter.mpr ⟨List.mem_of_getElem? (i := 711) (by decide +kernel), rfl⟩
theorem wd_712 : Cond.selects "DuelSamples$Script" ⟨"DuelSamples$Script", "verb", "(I)I"⟩ ⟨"DuelSamples$Script", "verb", "(I)I"⟩ ∈ TG := List.mem_filter.mpr ⟨List.mem_of_getElem? (i := 712) (by decide +kernel), rfl⟩
theorem wd_713 : Cond.code ⟨"DuelSamples$Script", "verb", "(I)I"⟩ prog_6_method_5_code 2 (Option.some Jvm.ClassFile.FieldType.int) ∈ TG := List.mem_filter.mpr ⟨List.mem_of_getElem? (i := 713) (by decide +kernel), rfl⟩
theorem wd_714 : Cond.methodLink "DuelSamples" 233 ⟨"DuelSamples$Script", "word", "(I)Ljava/lang/String;"⟩ ∈ TG := List.mem_filter.mpr ⟨List.mem_of_getElem? (i := 714) (by decide +kernel), rfl⟩
theorem wd_715 : Cond.methodLink "DuelSamples" 237 ⟨"DuelSamples$Reply", "putWord", "(Ljava/lang/String;)V"⟩ ∈ TG := List.mem_filter.mpr ⟨List.mem_of_getElem? (i := 715) (by decide +kernel), rfl⟩
theorem wd_716 : Cond.instanceMethod ⟨"DuelSamples$Reply", "putWord", "(Ljava/lang/String;)V"⟩ ∈ TG := List.mem_filter.mpr ⟨List.mem_of_getElem? (i := 716) (by decide +kernel), rfl⟩
theorem wd_717 : Cond.selects "DuelSamples$Reply" ⟨"DuelSamples$Reply", "putWord", "(Ljava/lang/String;)V"⟩ ⟨"DuelSamples$Reply", "putWord", "(Ljava/lang/String;)V"⟩ ∈ TG := List.mem_filter.mpr ⟨List.mem_of_getElem? (i := 717) (by decide +kernel), rfl⟩
theorem wd_718 : Cond.code ⟨"DuelSamples$Reply", "putWord", "(Ljava/lang/String;)V"⟩ prog_4_method_4_code 3 (Option.none : Option Jvm.ClassFile.FieldType) ∈ TG := List.mem_filter.mpr ⟨List.mem_of_getElem? (i := 718) (by decide +kernel), rfl⟩
theorem wd_719 : Cond.methodLink "DuelSamples$Reply" 19 ⟨"java/lang/String", "length", "()I"⟩ ∈ TG := List.mem_filter.mpr ⟨List.mem_of_getElem? (i := 719) (by decide +kernel), rfl⟩
theorem wd_720 : Cond.methodLink "DuelSamples$Reply" 24 ⟨"java/lang/String", "charAt", "(I)C"⟩ ∈ TG := List.mem_filter.mpr ⟨List.mem_of_getElem? (i := 720) (by decide +kernel), rfl⟩
theorem wd_721 : Cond.methodLink "DuelSamples$Reply" 28 ⟨"DuelSamples$Reply", "put", "(I)V"⟩ ∈ TG := List.mem_filter.mpr ⟨List.mem_of_getElem? (i := 721) (by decide +kernel), rfl⟩
theorem wd_722 : Cond.methodLink "DuelSamples" 241 ⟨"DuelSamples$Script", "number", "(II)I"⟩ ∈ TG := List.mem_filter.mpr ⟨List.mem_of_getElem? (i := 722) (by decide +kernel), rfl⟩
theorem wd_723 : Cond.instanceMethod ⟨"DuelSamples$Script", "number", "(II)I"⟩ ∈ TG := List.mem_filter.mpr ⟨List.mem_of_getElem? (i := 723) (by decide +kernel), rfl⟩
theorem wd_724 : Cond.selects "DuelSamples$Script" ⟨"DuelSamples$Script", "number", "(II)I"⟩ ⟨"DuelSamples$Script", "number", "(II)I"⟩ ∈ TG := List.mem_filter.mpr ⟨List.mem_of_getElem? (i := 724) (by decide +kernel), rfl⟩
theorem wd_725 : Cond.code ⟨"DuelSamples$Script", "number", "(II)I"⟩ prog_6_method_6_code 4 (Option.some Jvm.ClassFile.FieldType.int) ∈ TG := List.mem_filter.mpr ⟨List.mem_of_getElem? (i := 725) (by decide +kernel), rfl⟩
theorem wd_726 : Cond.methodLink "DuelSamples" 244 ⟨"DuelSamples$Reply", "putNumber", "(I)V"⟩ ∈ TG := List.mem_filter.mpr ⟨List.mem_of_getElem? (i := 726) (by decide +kernel), rfl⟩
theorem wd_727 : Cond.instanceMethod ⟨"DuelSamples$Reply", "putNumber", "(I)V"⟩ ∈ TG := List.mem_filter.mpr ⟨List.mem_of_getElem? (i := 727) (by decide +kernel), rfl⟩
theorem wd_728 : Cond.selects "DuelSamples$Reply" ⟨"DuelSamples$Reply", "putNumber", "(I)V"⟩ ⟨"DuelSamples$Reply", "putNumber", "(I)V"⟩ ∈ TG := List.mem_filter.mpr ⟨List.mem_of_getElem? (i := 728) (by decide +kernel), rfl⟩
theorem wd_729 : Cond.code ⟨"DuelSamples$Reply", "putNumber", "(I)V"⟩ prog_4_method_5_code 2 (Option.none : Option Jvm.ClassFile.FieldType) ∈ TG := List.mem_filter.mpr ⟨List.mem_of_getElem? (i := 729) (by decide +kernel), rfl⟩
theorem wd_730 : Cond.methodLink "DuelSamples" 247 ⟨"DuelSamples$Reply", "putUnits", "(I)V"⟩ ∈ TG := List.mem_filter.mpr ⟨List.mem_of_getElem? (i := 730) (by decide +kernel), rfl⟩
theorem wd_731 : Cond.instanceMethod ⟨"DuelSamples$Reply", "putUnits", "(I)V"⟩ ∈ TG := List.mem_filter.mpr ⟨List.mem_of_getElem? (i := 731) (by decide +kernel), rfl⟩
theorem wd_732 : Cond.selects "DuelSamples$Reply" ⟨"DuelSamples$Reply", "putUnits", "(I)V"⟩ ⟨"DuelSamples$Reply", "putUnits", "(I)V"⟩ ∈ TG := List.mem_filter.mpr ⟨List.mem_of_getElem? (i := 732) (by decide +kernel), rfl⟩
theorem wd_733 : Cond.code ⟨"DuelSamples$Reply", "putUnits", "(I)V"⟩ prog_4_method_6_code 4 (Option.none : Option Jvm.ClassFile.FieldType) ∈ TG := List.mem_filter.mpr ⟨List.mem_of_getElem? (i := 733) (by decide +kernel), rfl⟩
theorem wd_734 : Cond.methodLink "DuelSamples$Reply" 32 ⟨"DuelSamples$Reply", "putNumber", "(I)V"⟩ ∈ TG := List.mem_filter.mpr ⟨List.mem_of_getElem? (i := 734) (by decide +kernel), rfl⟩
theorem wd_735 : Cond.methodLink "DuelSamplesLaw" 114 ⟨"DuelSamples", "answer", "(I)I"⟩ ∈ TG := List.mem_filter.mpr ⟨List.mem_of_getElem? (i := 735) (by decide +kernel), rfl⟩
theorem wd_736 : Cond.instanceMethod ⟨"DuelSamples", "answer", "(I)I"⟩ ∈ TG := List.mem_filter.mpr ⟨List.mem_of_getElem? (i := 736) (by decide +kernel), rfl⟩
theorem wd_737 : Cond.selects "DuelSamples" ⟨"DuelSamples", "answer", "(I)I"⟩ ⟨"DuelSamples", "answer", "(I)I"⟩ ∈ TG := List.mem_filter.mpr ⟨List.mem_of_getElem? (i := 737) (by decide +kernel), rfl⟩
theorem wd_738 : Cond.code ⟨"DuelSamples", "answer", "(I)I"⟩ prog_1_method_25_code 2 (Option.some Jvm.ClassFile.FieldType.int) ∈ TG := List.mem_filter.mpr ⟨List.mem_of_getElem? (i := 738) (by decide +kernel), rfl⟩
theorem wd_739 : Cond.methodLink "DuelSamples" 206 ⟨"DuelSamples$Reply", "sign", "(I)I"⟩ ∈ TG := List.mem_filter.mpr ⟨List.mem_of_getElem? (i := 739) (by decide +kernel), rfl⟩
theorem wd_740 : Cond.instanceMethod ⟨"DuelSamples$Reply", "sign", "(I)I"⟩ ∈ TG := List.mem_filter.mpr ⟨List.mem_of_getElem? (i := 740) (by decide +kernel), rfl⟩
theorem wd_741 : Cond.selects "DuelSamples$Reply" ⟨"DuelSamples$Reply", "sign", "(I)I"⟩ ⟨"DuelSamples$Reply", "sign", "(I)I"⟩ ∈ TG := List.mem_filter.mpr ⟨List.mem_of_getElem? (i := 741) (by decide +kernel), rfl⟩
theorem wd_742 : Cond.code ⟨"DuelSamples$Reply", "sign", "(I)I"⟩ prog_4_method_2_code 2 (Option.some Jvm.ClassFile.FieldType.int) ∈ TG := List.mem_filter.mpr ⟨List.mem_of_getElem? (i := 742) (by decide +kernel), rfl⟩
theorem wd_743 : Cond.methodLink "DuelSamplesLaw" 118 ⟨"DuelSamples", "told", "(I)I"⟩ ∈ TG := List.mem_filter.mpr ⟨List.mem_of_getElem? (i := 743) (by decide +kernel), rfl⟩
theorem wd_744 : Cond.instanceMethod ⟨"DuelSamples", "told", "(I)I"⟩ ∈ TG := List.mem_filter.mpr ⟨List.mem_of_getElem? (i := 744) (by decide +kernel), rfl⟩
theorem wd_745 : Cond.selects "DuelSamples" ⟨"DuelSamples", "told", "(I)I"⟩ ⟨"DuelSamples", "told", "(I)I"⟩ ∈ TG := List.mem_filter.mpr ⟨List.mem_of_getElem? (i := 745) (by decide +kernel), rfl⟩
theorem wd_746 : Cond.code ⟨"DuelSamples", "told", "(I)I"⟩ prog_1_method_26_code 2 (Option.some Jvm.ClassFile.FieldType.int) ∈ TG := List.mem_filter.mpr ⟨List.mem_of_getElem? (i := 746) (by decide +kernel), rfl⟩
theorem wd_747 : Cond.methodLink "DuelSamples" 209 ⟨"DuelSamples", "state", "(I)I"⟩ ∈ TG := List.mem_filter.mpr ⟨List.mem_of_getElem? (i := 747) (by decide +kernel), rfl⟩
theorem wd_749 : Cond.instanceMethod ⟨"DuelSamples", "state", "(I)I"⟩ ∈ TG := List.mem_filter.mpr ⟨List.mem_of_getElem? (i := 749) (by decide +kernel), rfl⟩
theorem wd_750 : Cond.code ⟨"DuelSamples", "state", "(I)I"⟩ prog_1_method_34_code 2 (Option.some Jvm.ClassFile.FieldType.int) ∈ TG := List.mem_filter.mpr ⟨List.mem_of_getElem? (i := 750) (by decide +kernel), rfl⟩
theorem wd_751 : Cond.methodLink "DuelSamplesLaw" 122 ⟨"DuelSamples", "digest", "()J"⟩ ∈ TG := List.mem_filter.mpr ⟨List.mem_of_getElem? (i := 751) (by decide +kernel), rfl⟩
theorem wd_752 : Cond.instanceMethod ⟨"DuelSamples", "digest", "()J"⟩ ∈ TG := List.mem_filter.mpr ⟨List.mem_of_getElem? (i := 752) (by decide +kernel), rfl⟩
theorem wd_753 : Cond.selects "DuelSamples" ⟨"DuelSamples", "digest", "()J"⟩ ⟨"DuelSamples", "digest", "()J"⟩ ∈ TG := List.mem_filter.mpr ⟨List.mem_of_getElem? (i := 753) (by decide +kernel), rfl⟩
theorem wd_754 : Cond.code ⟨"DuelSamples", "digest", "()J"⟩ prog_1_method_27_code 5 (Option.some Jvm.ClassFile.FieldType.long) ∈ TG := List.mem_filter.mpr ⟨List.mem_of_getElem? (i := 754) (by decide +kernel), rfl⟩
theorem wd_755 : Cond.constantLong "DuelSamples" 212 (2029) ∈ TG := List.mem_filter.mpr ⟨List.mem_of_getElem? (i := 755) (by decide +kernel), rfl⟩
theorem wd_756 : Cond.constantLong "DuelSamples" 214 (31) ∈ TG := List.mem_filter.mpr ⟨List.mem_of_getElem? (i := 756) (by decide +kernel), rfl⟩
theorem wd_757 : Cond.classLink "DuelSamplesLaw" 10 "DuelSamplesModel" ∈ TG := List.mem_filter.mpr ⟨List.mem_of_getElem? (i := 757) (by decide +kernel), rfl⟩
theorem wd_758 : Cond.instantiable "DuelSamplesModel" 23 ∈ TG := List.mem_filter.mpr ⟨List.mem_of_getElem? (i := 758) (by decide +kernel), rfl⟩
theorem wd_759 : Cond.methodLink "DuelSamplesLaw" 12 ⟨"DuelSamplesModel", "<init>", "()V"⟩ ∈ TG := List.mem_filter.mpr ⟨List.mem_of_getElem? (i := 759) (by decide +kernel), rfl⟩
theorem wd_760 : Cond.instanceMethod ⟨"DuelSamplesModel", "<init>", "()V"⟩ ∈ TG := List.mem_filter.mpr ⟨List.mem_of_getElem? (i := 760) (by decide +kernel), rfl⟩
theorem wd_761 : Cond.code ⟨"DuelSamplesModel", "<init>", "()V"⟩ prog_8_method_1_code 1 (Option.none : Option Jvm.ClassFile.FieldType) ∈ TG := List.mem_filter.mpr ⟨List.mem_of_getElem? (i := 761) (by decide +kernel), rfl⟩
theorem wd_762 : Cond.methodLink "DuelSamplesModel" 1 ⟨"java/lang/Object", "<init>", "()V"⟩ ∈ TG := List.mem_filter.mpr ⟨List.mem_of_getElem? (i := 762) (by decide +kernel), rfl⟩
theorem wd_763 : Cond.fieldLink "DuelSamplesModel" 7 "DuelSamplesModel" "units" "[I" ∈ TG := List.mem_filter.mpr ⟨List.mem_of_getElem? (i := 763) (by decide +kernel), rfl⟩
theorem wd_764 : Cond.fieldLink "DuelSamplesModel" 38 "DuelSamplesModel" "unitsNow" "I" ∈ TG := List.mem_filter.mpr ⟨List.mem_of_getElem? (i := 764) (by decide +kernel), rfl⟩
theorem wd_765 : Cond.fieldLink "DuelSamplesModel" 134 "DuelSamplesModel" "way" "I" ∈ TG := List.mem_filter.mpr ⟨List.mem_of_getElem? (i := 765) (by decide +kernel), rfl⟩
theorem wd_766 : Cond.fieldLink "DuelSamplesModel" 75 "DuelSamplesModel" "sample" "I" ∈ TG := List.mem_filter.mpr ⟨List.mem_of_getElem? (i := 766) (by decide +kernel), rfl⟩
theorem wd_767 : Cond.fieldLink "DuelSamplesModel" 13 "DuelSamplesModel" "refused" "[I" ∈ TG := List.mem_filter.mpr ⟨List.mem_of_getElem? (i := 767) (by decide +kernel), rfl⟩
theorem wd_768 : Cond.fieldLink "DuelSamplesModel" 16 "DuelSamplesModel" "left" "[I" ∈ TG := List.mem_filter.mpr ⟨List.mem_of_getElem? (i := 768) (by decide +kernel), rfl⟩
theorem wd_769 : Cond.fieldLink "DuelSamplesModel" 146 "DuelSamplesModel" "one" "I" ∈ TG := List.mem_filter.mpr ⟨List.mem_of_getElem? (i := 769) (by decide +kernel), rfl⟩
theorem wd_770 : Cond.fieldLink "DuelSamplesModel" 149 "DuelSamplesModel" "two" "I" ∈ TG := List.mem_filter.mpr ⟨List.mem_of_getElem? (i := 770) (by decide +kernel), rfl⟩
theorem wd_771 : Cond.fieldLink "DuelSamplesModel" 19 "DuelSamplesModel" "played" "[I" ∈ TG := List.mem_filter.mpr ⟨List.mem_of_getElem? (i := 771) (by decide +kernel), rfl⟩
theorem wd_772 : Cond.fieldLink "DuelSamplesModel" 78 "DuelSamplesModel" "plays" "I" ∈ TG := List.mem_filter.mpr ⟨List.mem_of_getElem? (i := 772) (by decide +kernel), rfl⟩
theorem wd_773 : Cond.fieldLink "DuelSamplesModel" 81 "DuelSamplesModel" "low" "I" ∈ TG := List.mem_filter.mpr ⟨List.mem_of_getElem? (i := 773) (by decide +kernel), rfl⟩
theorem wd_774 : Cond.fieldLink "DuelSamplesModel" 84 "DuelSamplesModel" "high" "I" ∈ TG := List.mem_filter.mpr ⟨List.mem_of_getElem? (i := 774) (by decide +kernel), rfl⟩
theorem wd_775 : Cond.fieldLink "DuelSamplesModel" 22 "DuelSamplesModel" "playedNow" "[I" ∈ TG := List.mem_filter.mpr ⟨List.mem_of_getElem? (i := 775) (by decide +kernel), rfl⟩
theorem wd_776 : Cond.fieldLink "DuelSamplesModel" 158 "DuelSamplesModel" "playsNow" "I" ∈ TG := List.mem_filter.mpr ⟨List.mem_of_getElem? (i := 776) (by decide +kernel), rfl⟩
theorem wd_777 : Cond.fieldLink "DuelSamplesModel" 161 "DuelSamplesModel" "lowNow" "I" ∈ TG := List.mem_filter.mpr ⟨List.mem_of_getElem? (i := 777) (by decide +kernel), rfl⟩
theorem wd_778 : Cond.fieldLink "DuelSamplesModel" 164 "DuelSamplesModel" "highNow" "I" ∈ TG := List.mem_filter.mpr ⟨List.mem_of_getElem? (i := 778) (by decide +kernel), rfl⟩
theorem wd_779 : Cond.fieldLink "DuelSamplesModel" 25 "DuelSamplesModel" "canBe" "[Z" ∈ TG := List.mem_filter.mpr ⟨List.mem_of_getElem? (i := 779) (by decide +kernel), rfl⟩
theorem wd_780 : Cond.fieldLink "DuelSamplesModel" 29 "DuelSamplesModel" "text" "[I" ∈ TG := List.mem_filter.mpr ⟨List.mem_of_getElem? (i := 780) (by decide +kernel), rfl⟩
theorem wd_781 : Cond.fieldLink "DuelSamplesModel" 231 "DuelSamplesModel" "textLong" "I" ∈ TG := List.mem_filter.mpr ⟨List.mem_of_getElem? (i := 781) (by decide +kernel), rfl⟩
theorem wd_782 : Cond.fieldLink "DuelSamplesModel" 32 "DuelSamplesModel" "answered" "[I" ∈ TG := List.mem_filter.mpr ⟨List.mem_of_getElem? (i := 782) (by decide +kernel), rfl⟩
theorem wd_783 : Cond.fieldLink "DuelSamplesModel" 234 "DuelSamplesModel" "answerLong" "I" ∈ TG := List.mem_filter.mpr ⟨List.mem_of_getElem? (i := 783) (by decide +kernel), rfl⟩
theorem wd_784 : Cond.fieldLink "DuelSamplesModel" 256 "DuelSamplesModel" "place" "I" ∈ TG := List.mem_filter.mpr ⟨List.mem_of_getElem? (i := 784) (by decide +kernel), rfl⟩
theorem wd_785 : Cond.fieldLink "DuelSamplesModel" 35 "DuelSamplesModel" "numbers" "[I" ∈ TG := List.mem_filter.mpr ⟨List.mem_of_getElem? (i := 785) (by decide +kernel), rfl⟩
theorem wd_833 : Cond.arrayClass .boolean ∈ TG := List.mem_filter.mpr ⟨List.mem_of_getElem? (i := 833) (by decide +kernel), rfl⟩
theorem wd_834 : Cond.methodLink "DuelSamplesLaw" 17 ⟨"DuelSamplesModel", "unit", "(IIIII)I"⟩ ∈ TG := List.mem_filter.mpr ⟨List.mem_of_getElem? (i := 834) (by decide +kernel), rfl⟩
theorem wd_835 : Cond.instanceMethod ⟨"DuelSamplesModel", "unit", "(IIIII)I"⟩ ∈ TG := List.mem_filter.mpr ⟨List.mem_of_getElem? (i := 835) (by decide +kernel), rfl⟩
theorem wd_836 : Cond.selects "DuelSamplesModel" ⟨"DuelSamplesModel", "unit", "(IIIII)I"⟩ ⟨"DuelSamplesModel", "unit", "(IIIII)I"⟩ ∈ TG := List.mem_filter.mpr ⟨List.mem_of_getElem? (i := 836) (by decide +kernel), rfl⟩
theorem wd_837 : Cond.code ⟨"DuelSamplesModel", "unit", "(IIIII)I"⟩ prog_8_method_12_code 6 (Option.some Jvm.ClassFile.FieldType.int) ∈ TG := List.mem_filter.mpr ⟨List.mem_of_getElem? (i := 837) (by decide +kernel), rfl⟩
theorem wd_838 : Cond.methodLink "DuelSamplesModel" 46 ⟨"DuelSamplesModel", "mostOf", "(I)I"⟩ ∈ TG := List.mem_filter.mpr ⟨List.mem_of_getElem? (i := 838) (by decide +kernel), rfl⟩
theorem wd_839 : Cond.static ⟨"DuelSamplesModel", "mostOf", "(I)I"⟩ ∈ TG := List.mem_filter.mpr ⟨List.mem_of_getElem? (i := 839) (by decide +kernel), rfl⟩
theorem wd_840 : Cond.code ⟨"DuelSamplesModel", "mostOf", "(I)I"⟩ prog_8_method_8_code 1 (Option.some Jvm.ClassFile.FieldType.int) ∈ TG := List.mem_filter.mpr ⟨List.mem_of_getElem? (i := 840) (by decide +kernel), rfl⟩
theorem wd_841 : Cond.methodLink "DuelSamplesModel" 42 ⟨"DuelSamplesModel", "in", "(JJJ)Z"⟩ ∈ TG := List.mem_filter.mpr ⟨List.mem_of_getElem? (i := 841) (by decide +kernel), rfl⟩
theorem wd_842 : Cond.static ⟨"DuelSamplesModel", "in", "(JJJ)Z"⟩ ∈ TG := List.mem_filter.mpr ⟨List.mem_of_getElem? (i := 842) (by decide +kernel), rfl⟩
theorem wd_843 : Cond.code ⟨"DuelSamplesModel", "in", "(JJJ)Z"⟩ prog_8_method_3_code 6 (Option.some Jvm.ClassFile.FieldType.boolean) ∈ TG := List.mem_filter.mpr ⟨List.mem_of_getElem? (i := 843) (by decide +kernel), rfl⟩
theorem wd_844 : Cond.methodLink "DuelSamplesModel" 50 ⟨"DuelSamplesModel", "bad", "(I)I"⟩ ∈ TG := List.mem_filter.mpr ⟨List.mem_of_getElem? (i := 844) (by decide +kernel), rfl⟩
theorem wd_846 : Cond.instanceMethod ⟨"DuelSamplesModel", "bad", "(I)I"⟩ ∈ TG := List.mem_filter.mpr ⟨List.mem_of_getElem? (i := 846) (by decide +kernel), rfl⟩
theorem wd_847 : Cond.code ⟨"DuelSamplesModel", "bad", "(I)I"⟩ prog_8_method_4_code 2 (Option.some Jvm.ClassFile.FieldType.int) ∈ TG := List.mem_filter.mpr ⟨List.mem_of_getElem? (i := 847) (by decide +kernel), rfl⟩
theorem wd_848 : Cond.methodLink "DuelSamplesModel" 53 ⟨"DuelSamplesModel", "full", "()I"⟩ ∈ TG := List.mem_filter.mpr ⟨List.mem_of_getElem? (i := 848) (by decide +kernel), rfl⟩
theorem wd_850 : Cond.instanceMethod ⟨"DuelSamplesModel", "full", "()I"⟩ ∈ TG := List.mem_filter.mpr ⟨List.mem_of_getElem? (i := 850) (by decide +kernel), rfl⟩
theorem wd_851 : Cond.code ⟨"DuelSamplesModel", "full", "()I"⟩ prog_8_method_5_code 1 (Option.some Jvm.ClassFile.FieldType.int) ∈ TG := List.mem_filter.mpr ⟨List.mem_of_getElem? (i := 851) (by decide +kernel), rfl⟩
theorem wd_852 : Cond.methodLink "DuelSamplesModel" 57 ⟨"DuelSamplesModel", "lays", "(IIIII)V"⟩ ∈ TG := List.mem_filter.mpr ⟨List.mem_of_getElem? (i := 852) (by decide +kernel), rfl⟩
theorem wd_854 : Cond.instanceMethod ⟨"DuelSamplesModel", "lays", "(IIIII)V"⟩ ∈ TG := List.mem_filter.mpr ⟨List.mem_of_getElem? (i := 854) (by decide +kernel), rfl⟩
theorem wd_855 : Cond.code ⟨"DuelSamplesModel", "lays", "(IIIII)V"⟩ prog_8_method_11_code 7 (Option.none : Option Jvm.ClassFile.FieldType) ∈ TG := List.mem_filter.mpr ⟨List.mem_of_getElem? (i := 855) (by decide +kernel), rfl⟩
theorem wd_856 : Cond.methodLink "DuelSamplesLaw" 22 ⟨"DuelSamplesModel", "sets", "(III)I"⟩ ∈ TG := List.mem_filter.mpr ⟨List.mem_of_getElem? (i := 856) (by decide +kernel), rfl⟩
theorem wd_857 : Cond.instanceMethod ⟨"DuelSamplesModel", "sets", "(III)I"⟩ ∈ TG := List.mem_filter.mpr ⟨List.mem_of_getElem? (i := 857) (by decide +kernel), rfl⟩
theorem wd_858 : Cond.selects "DuelSamplesModel" ⟨"DuelSamplesModel", "sets", "(III)I"⟩ ⟨"DuelSamplesModel", "sets", "(III)I"⟩ ∈ TG := List.mem_filter.mpr ⟨List.mem_of_getElem? (i := 858) (by decide +kernel), rfl⟩
theorem wd_859 : Cond.code ⟨"DuelSamplesModel", "sets", "(III)I"⟩ prog_8_method_14_code 4 (Option.some Jvm.ClassFile.FieldType.int) ∈ TG := List.mem_filter.mpr ⟨List.mem_of_getElem? (i := 859) (by decide +kernel), rfl⟩
theorem wd_860 : Cond.methodLink "DuelSamplesModel" 65 ⟨"DuelSamplesModel", "isUnit", "(I)Z"⟩ ∈ TG := List.mem_filter.mpr ⟨List.mem_of_getElem? (i := 860) (by decide +kernel), rfl⟩
theorem wd_862 : Cond.instanceMethod ⟨"DuelSamplesModel", "isUnit", "(I)Z"⟩ ∈ TG := List.mem_filter.mpr ⟨List.mem_of_getElem? (i := 862) (by decide +kernel), rfl⟩
theorem wd_863 : Cond.code ⟨"DuelSamplesModel", "isUnit", "(I)Z"⟩ prog_8_method_6_code 2 (Option.some Jvm.ClassFile.FieldType.boolean) ∈ TG := List.mem_filter.mpr ⟨List.mem_of_getElem? (i := 863) (by decide +kernel), rfl⟩
theorem wd_864 : Cond.constantLong "DuelSamplesModel" 69 (4) ∈ TG := List.mem_filter.mpr ⟨List.mem_of_getElem? (i := 864) (by decide +kernel), rfl⟩
theorem wd_865 : Cond.methodLink "DuelSamplesModel" 71 ⟨"DuelSamplesModel", "becomes", "(III)I"⟩ ∈ TG := List.mem_filter.mpr ⟨List.mem_of_getElem? (i := 865) (by decide +kernel), rfl⟩
theorem wd_867 : Cond.instanceMethod ⟨"DuelSamplesModel", "becomes", "(III)I"⟩ ∈ TG := List.mem_filter.mpr ⟨List.mem_of_getElem? (i := 867) (by decide +kernel), rfl⟩
theorem wd_868 : Cond.code ⟨"DuelSamplesModel", "becomes", "(III)I"⟩ prog_8_method_13_code 5 (Option.some Jvm.ClassFile.FieldType.int) ∈ TG := List.mem_filter.mpr ⟨List.mem_of_getElem? (i := 868) (by decide +kernel), rfl⟩
theorem wd_869 : Cond.methodLink "DuelSamplesModel" 61 ⟨"DuelSamplesModel", "at", "(II)I"⟩ ∈ TG := List.mem_filter.mpr ⟨List.mem_of_getElem? (i := 869) (by decide +kernel), rfl⟩
theorem wd_871 : Cond.instanceMethod ⟨"DuelSamplesModel", "at", "(II)I"⟩ ∈ TG := List.mem_filter.mpr ⟨List.mem_of_getElem? (i := 871) (by decide +kernel), rfl⟩
theorem wd_872 : Cond.code ⟨"DuelSamplesModel", "at", "(II)I"⟩ prog_8_method_7_code 3 (Option.some Jvm.ClassFile.FieldType.int) ∈ TG := List.mem_filter.mpr ⟨List.mem_of_getElem? (i := 872) (by decide +kernel), rfl⟩
theorem wd_873 : Cond.methodLink "DuelSamplesLaw" 27 ⟨"DuelSamplesModel", "empties", "()I"⟩ ∈ TG := List.mem_filter.mpr ⟨List.mem_of_getElem? (i := 873) (by decide +kernel), rfl⟩
theorem wd_874 : Cond.instanceMethod ⟨"DuelSamplesModel", "empties", "()I"⟩ ∈ TG := List.mem_filter.mpr ⟨List.mem_of_getElem? (i := 874) (by decide +kernel), rfl⟩
theorem wd_875 : Cond.selects "DuelSamplesModel" ⟨"DuelSamplesModel", "empties", "()I"⟩ ⟨"DuelSamplesModel", "empties", "()I"⟩ ∈ TG := List.mem_filter.mpr ⟨List.mem_of_getElem? (i := 875) (by decide +kernel), rfl⟩
theorem wd_876 : Cond.code ⟨"DuelSamplesModel", "empties", "()I"⟩ prog_8_method_16_code 2 (Option.some Jvm.ClassFile.FieldType.int) ∈ TG := List.mem_filter.mpr ⟨List.mem_of_getElem? (i := 876) (by decide +kernel), rfl⟩
theorem wd_877 : Cond.methodLink "DuelSamplesModel" 87 ⟨"DuelSamplesModel", "goesEmpty", "()V"⟩ ∈ TG := List.mem_filter.mpr ⟨List.mem_of_getElem? (i := 877) (by decide +kernel), rfl⟩
theorem wd_879 : Cond.instanceMethod ⟨"DuelSamplesModel", "goesEmpty", "()V"⟩ ∈ TG := List.mem_filter.mpr ⟨List.mem_of_getElem? (i := 879) (by decide +kernel), rfl⟩
theorem wd_880 : Cond.code ⟨"DuelSamplesModel", "goesEmpty", "()V"⟩ prog_8_method_15_code 1 (Option.none : Option Jvm.ClassFile.FieldType) ∈ TG := List.mem_filter.mpr ⟨List.mem_of_getElem? (i := 880) (by decide +kernel), rfl⟩
theorem wd_881 : Cond.methodLink "DuelSamplesLaw" 32 ⟨"DuelSamplesModel", "draw", "(II)I"⟩ ∈ TG := List.mem_filter.mpr ⟨List.mem_of_getElem? (i := 881) (by decide +kernel), rfl⟩
theorem wd_882 : Cond.instanceMethod ⟨"DuelSamplesModel", "draw", "(II)I"⟩ ∈ TG := List.mem_filter.mpr ⟨List.mem_of_getElem? (i := 882) (by decide +kernel), rfl⟩
theorem wd_883 : Cond.selects "DuelSamplesModel" ⟨"DuelSamplesModel", "draw", "(II)I"⟩ ⟨"DuelSamplesModel", "draw", "(II)I"⟩ ∈ TG := List.mem_filter.mpr ⟨List.mem_of_getElem? (i := 883) (by decide +kernel), rfl⟩
theorem wd_884 : Cond.code ⟨"DuelSamplesModel", "draw", "(II)I"⟩ prog_8_method_18_code 7 (Option.some Jvm.ClassFile.FieldType.int) ∈ TG := List.mem_filter.mpr ⟨List.mem_of_getElem? (i := 884) (by decide +kernel), rfl⟩
theorem wd_885 : Cond.constantLong "DuelSamplesModel" 96 (999999) ∈ TG := List.mem_filter.mpr ⟨List.mem_of_getElem? (i := 885) (by decide +kernel), rfl⟩
theorem wd_886 : Cond.constantLong "DuelSamplesModel" 98 (12) ∈ TG := List.mem_filter.mpr ⟨List.mem_of_getElem? (i := 886) (by decide +kernel), rfl⟩
theorem wd_887 : Cond.methodLink "DuelSamplesModel" 100 ⟨"DuelSamplesModel", "next", "(J)J"⟩ ∈ TG := List.mem_filter.mpr ⟨List.mem_of_getElem? (i := 887) (by decide +kernel), rfl⟩
theorem wd_888 : Cond.static ⟨"DuelSamplesModel", "next", "(J)J"⟩ ∈ TG := List.mem_filter.mpr ⟨List.mem_of_getElem? (i := 888) (by decide +kernel), rfl⟩
theorem wd_889 : Cond.code ⟨"DuelSamplesModel", "next", "(J)J"⟩ prog_8_method_17_code 2 (Option.some Jvm.ClassFile.FieldType.long) ∈ TG := List.mem_filter.mpr ⟨List.mem_of_getElem? (i := 889) (by decide +kernel), rfl⟩
theorem wd_890 : Cond.constantLong "DuelSamplesModel" 90 (1103515245) ∈ TG := List.mem_filter.mpr ⟨List.mem_of_getElem? (i := 890) (by decide +kernel), rfl⟩
theorem wd_891 : Cond.constantLong "DuelSamplesModel" 92 (12345) ∈ TG := List.mem_filter.mpr ⟨List.mem_of_getElem? (i := 891) (by decide +kernel), rfl⟩
theorem wd_892 : Cond.constantLong "DuelSamplesModel" 94 (2147483648) ∈ TG := List.mem_filter.mpr ⟨List.mem_of_getElem? (i := 892) (by decide +kernel), rfl⟩
theorem wd_893 : Cond.constantLong "DuelSamplesModel" 104 (65536) ∈ TG := List.mem_filter.mpr ⟨List.mem_of_getElem? (i := 893) (by decide +kernel), rfl⟩
theorem wd_894 : Cond.constantLong "DuelSamplesModel" 106 (13) ∈ TG := List.mem_filter.mpr ⟨List.mem_of_getElem? (i := 894) (by decide +kernel), rfl⟩
theorem wd_895 : Cond.constantLong "DuelSamplesModel" 108 (1024) ∈ TG := List.mem_filter.mpr ⟨List.mem_of_getElem? (i := 895) (by decide +kernel), rfl⟩
theorem wd_896 : Cond.constantLong "DuelSamplesModel" 110 (100) ∈ TG := List.mem_filter.mpr ⟨List.mem_of_getElem? (i := 896) (by decide +kernel), rfl⟩
theorem wd_897 : Cond.constantLong "DuelSamplesModel" 112 (32768) ∈ TG := List.mem_filter.mpr ⟨List.mem_of_getElem? (i := 897) (by decide +kernel), rfl⟩
theorem wd_898 : Cond.constantLong "DuelSamplesModel" 114 (4096) ∈ TG := List.mem_filter.mpr ⟨List.mem_of_getElem? (i := 898) (by decide +kernel), rfl⟩
theorem wd_899 : Cond.constantLong "DuelSamplesModel" 116 (512) ∈ TG := List.mem_filter.mpr ⟨List.mem_of_getElem? (i := 899) (by decide +kernel), rfl⟩
theorem wd_900 : Cond.methodLink "DuelSamplesLaw" 36 ⟨"DuelSamplesModel", "of", "(II)I"⟩ ∈ TG := List.mem_filter.mpr ⟨List.mem_of_getElem? (i := 900) (by decide +kernel), rfl⟩
theorem wd_901 : Cond.instanceMethod ⟨"DuelSamplesModel", "of", "(II)I"⟩ ∈ TG := List.mem_filter.mpr ⟨List.mem_of_getElem? (i := 901) (by decide +kernel), rfl⟩
theorem wd_902 : Cond.selects "DuelSamplesModel" ⟨"DuelSamplesModel", "of", "(II)I"⟩ ⟨"DuelSamplesModel", "of", "(II)I"⟩ ∈ TG := List.mem_filter.mpr ⟨List.mem_of_getElem? (i := 902) (by decide +kernel), rfl⟩
theorem wd_903 : Cond.code ⟨"DuelSamplesModel", "of", "(II)I"⟩ prog_8_method_19_code 3 (Option.some Jvm.ClassFile.FieldType.int) ∈ TG := List.mem_filter.mpr ⟨List.mem_of_getElem? (i := 903) (by decide +kernel), rfl⟩
theorem wd_904 : Cond.constantLong "DuelSamplesModel" 118 (5) ∈ TG := List.mem_filter.mpr ⟨List.mem_of_getElem? (i := 904) (by decide +kernel), rfl⟩
theorem wd_905 : Cond.methodLink "DuelSamplesModel" 120 ⟨"DuelSamplesModel", "has", "(II)Z"⟩ ∈ TG := List.mem_filter.mpr ⟨List.mem_of_getElem? (i := 905) (by decide +kernel), rfl⟩
theorem wd_906 : Cond.static ⟨"DuelSamplesModel", "has", "(II)Z"⟩ ∈ TG := List.mem_filter.mpr ⟨List.mem_of_getElem? (i := 906) (by decide +kernel), rfl⟩
theorem wd_907 : Cond.code ⟨"DuelSamplesModel", "has", "(II)Z"⟩ prog_8_method_9_code 2 (Option.some Jvm.ClassFile.FieldType.boolean) ∈ TG := List.mem_filter.mpr ⟨List.mem_of_getElem? (i := 907) (by decide +kernel), rfl⟩
theorem wd_908 : Cond.methodLink "DuelSamplesLaw" 41 ⟨"DuelSamplesModel", "all", "(I)I"⟩ ∈ TG := List.mem_filter.mpr ⟨List.mem_of_getElem? (i := 908) (by decide +kernel), rfl⟩
theorem wd_909 : Cond.instanceMethod ⟨"DuelSamplesModel", "all", "(I)I"⟩ ∈ TG := List.mem_filter.mpr ⟨List.mem_of_getElem? (i := 909) (by decide +kernel), rfl⟩
theorem wd_910 : Cond.selects "DuelSamplesModel" ⟨"DuelSamplesModel", "all", "(I)I"⟩ ⟨"DuelSamplesModel", "all", "(I)I"⟩ ∈ TG := List.mem_filter.mpr ⟨List.mem_of_getElem? (i := 910) (by decide +kernel), rfl⟩
theorem wd_911 : Cond.code ⟨"DuelSamplesModel", "all", "(I)I"⟩ prog_8_method_22_code 2 (Option.some Jvm.ClassFile.FieldType.int) ∈ TG := List.mem_filter.mpr ⟨List.mem_of_getElem? (i := 911) (by decide +kernel), rfl⟩
theorem wd_912 : Cond.constantLong "DuelSamplesModel" 126 (3) ∈ TG := List.mem_filter.mpr ⟨List.mem_of_getElem? (i := 912) (by decide +kernel), rfl⟩
theorem wd_913 : Cond.methodLink "DuelSamplesModel" 128 ⟨"DuelSamplesModel", "sumOf", "(I)I"⟩ ∈ TG := List.mem_filter.mpr ⟨List.mem_of_getElem? (i := 913) (by decide +kernel), rfl⟩
theorem wd_915 : Cond.instanceMethod ⟨"DuelSamplesModel", "sumOf", "(I)I"⟩ ∈ TG := List.mem_filter.mpr ⟨List.mem_of_getElem? (i := 915) (by decide +kernel), rfl⟩
theorem wd_916 : Cond.code ⟨"DuelSamplesModel", "sumOf", "(I)I"⟩ prog_8_method_20_code 4 (Option.some Jvm.ClassFile.FieldType.int) ∈ TG := List.mem_filter.mpr ⟨List.mem_of_getElem? (i := 916) (by decide +kernel), rfl⟩
theorem wd_917 : Cond.methodLink "DuelSamplesModel" 131 ⟨"DuelSamplesModel", "opens", "()I"⟩ ∈ TG := List.mem_filter.mpr ⟨List.mem_of_getElem? (i := 917) (by decide +kernel), rfl⟩
theorem wd_919 : Cond.instanceMethod ⟨"DuelSamplesModel", "opens", "()I"⟩ ∈ TG := List.mem_filter.mpr ⟨List.mem_of_getElem? (i := 919) (by decide +kernel), rfl⟩
theorem wd_920 : Cond.code ⟨"DuelSamplesModel", "opens", "()I"⟩ prog_8_method_21_code 3 (Option.some Jvm.ClassFile.FieldType.int) ∈ TG := List.mem_filter.mpr ⟨List.mem_of_getElem? (i := 920) (by decide +kernel), rfl⟩
theorem wd_921 : Cond.constantLong "DuelSamplesModel" 124 (11) ∈ TG := List.mem_filter.mpr ⟨List.mem_of_getElem? (i := 921) (by decide +kernel), rfl⟩
theorem wd_922 : Cond.methodLink "DuelSamplesLaw" 45 ⟨"DuelSamplesModel", "method", "(I)I"⟩ ∈ TG := List.mem_filter.mpr ⟨List.mem_of_getElem? (i := 922) (by decide +kernel), rfl⟩
theorem wd_923 : Cond.instanceMethod ⟨"DuelSamplesModel", "method", "(I)I"⟩ ∈ TG := List.mem_filter.mpr ⟨List.mem_of_getElem? (i := 923) (by decide +kernel), rfl⟩
theorem wd_924 : Cond.selects "DuelSamplesModel" ⟨"DuelSamplesModel", "method", "(I)I"⟩ ⟨"DuelSamplesModel", "method", "(I)I"⟩ ∈ TG := List.mem_filter.mpr ⟨List.mem_of_getElem? (i := 924) (by decide +kernel), rfl⟩
theorem wd_925 : Cond.code ⟨"DuelSamplesModel", "method", "(I)I"⟩ prog_8_method_23_code 3 (Option.some Jvm.ClassFile.FieldType.int) ∈ TG := List.mem_filter.mpr ⟨List.mem_of_getElem? (i := 925) (by decide +kernel), rfl⟩
theorem wd_926 : Cond.methodLink "DuelSamplesLaw" 49 ⟨"DuelSamplesModel", "walk", "(I)I"⟩ ∈ TG := List.mem_filter.mpr ⟨List.mem_of_getElem? (i := 926) (by decide +kernel), rfl⟩
theorem wd_927 : Cond.instanceMethod ⟨"DuelSamplesModel", "walk", "(I)I"⟩ ∈ TG := List.mem_filter.mpr ⟨List.mem_of_getElem? (i := 927) (by decide +kernel), rfl⟩
theorem wd_928 : Cond.selects "DuelSamplesModel" ⟨"DuelSamplesModel", "walk", "(I)I"⟩ ⟨"DuelSamplesModel", "walk", "(I)I"⟩ ∈ TG := List.mem_filter.mpr ⟨List.mem_of_getElem? (i := 928) (by decide +kernel), rfl⟩
theorem wd_929 : Cond.code ⟨"DuelSamplesModel", "walk", "(I)I"⟩ prog_8_method_38_code 2 (Option.some Jvm.ClassFile.FieldType.int) ∈ TG := List.mem_filter.mpr ⟨List.mem_of_getElem? (i := 929) (by decide +kernel), rfl⟩
theorem wd_930 : Cond.methodLink "DuelSamplesModel" 193 ⟨"DuelSamplesModel", "isSeed", "(I)Z"⟩ ∈ TG := List.mem_filter.mpr ⟨List.mem_of_getElem? (i := 930) (by decide +kernel), rfl⟩
theorem wd_931 : Cond.static ⟨"DuelSamplesModel", "isSeed", "(I)Z"⟩ ∈ TG := List.mem_filter.mpr ⟨List.mem_of_getElem? (i := 931) (by decide +kernel), rfl⟩
theorem wd_932 : Cond.code ⟨"DuelSamplesModel", "isSeed", "(I)Z"⟩ prog_8_method_37_code 1 (Option.some Jvm.ClassFile.FieldType.boolean) ∈ TG := List.mem_filter.mpr ⟨List.mem_of_getElem? (i := 932) (by decide +kernel), rfl⟩
theorem wd_933 : Cond.methodLink "DuelSamplesModel" 196 ⟨"DuelSamplesModel", "walks", "(I)I"⟩ ∈ TG := List.mem_filter.mpr ⟨List.mem_of_getElem? (i := 933) (by decide +kernel), rfl⟩
theorem wd_935 : Cond.instanceMethod ⟨"DuelSamplesModel", "walks", "(I)I"⟩ ∈ TG := List.mem_filter.mpr ⟨List.mem_of_getElem? (i := 935) (by decide +kernel), rfl⟩
theorem wd_936 : Cond.code ⟨"DuelSamplesModel", "walks", "(I)I"⟩ prog_8_method_36_code 3 (Option.some Jvm.ClassFile.FieldType.int) ∈ TG := List.mem_filter.mpr ⟨List.mem_of_getElem? (i := 936) (by decide +kernel), rfl⟩
theorem wd_937 : Cond.methodLink "DuelSamplesModel" 187 ⟨"DuelSamplesModel", "walked", "(I)I"⟩ ∈ TG := List.mem_filter.mpr ⟨List.mem_of_getElem? (i := 937) (by decide +kernel), rfl⟩
theorem wd_939 : Cond.instanceMethod ⟨"DuelSamplesModel", "walked", "(I)I"⟩ ∈ TG := List.mem_filter.mpr ⟨List.mem_of_getElem? (i := 939) (by decide +kernel), rfl⟩
theorem wd_940 : Cond.code ⟨"DuelSamplesModel", "walked", "(I)I"⟩ prog_8_method_35_code 7 (Option.some Jvm.ClassFile.FieldType.int) ∈ TG := List.mem_filter.mpr ⟨List.mem_of_getElem? (i := 940) (by decide +kernel), rfl⟩
theorem wd_941 : Cond.methodLink "DuelSamplesModel" 167 ⟨"DuelSamplesModel", "begins", "()V"⟩ ∈ TG := List.mem_filter.mpr ⟨List.mem_of_getElem? (i := 941) (by decide +kernel), rfl⟩
theorem wd_943 : Cond.instanceMethod ⟨"DuelSamplesModel", "begins", "()V"⟩ ∈ TG := List.mem_filter.mpr ⟨List.mem_of_getElem? (i := 943) (by decide +kernel), rfl⟩
theorem wd_944 : Cond.code ⟨"DuelSamplesModel", "begins", "()V"⟩ prog_8_method_33_code 2 (Option.none : Option Jvm.ClassFile.FieldType) ∈ TG := List.mem_filter.mpr ⟨List.mem_of_getElem? (i := 944) (by decide +kernel), rfl⟩
theorem wd_945 : Cond.methodLink "DuelSamplesModel" 170 ⟨"DuelSamplesModel", "finds", "()Z"⟩ ∈ TG := List.mem_filter.mpr ⟨List.mem_of_getElem? (i := 945) (by decide +kernel), rfl⟩
theorem wd_947 : Cond.instanceMethod ⟨"DuelSamplesModel", "finds", "()Z"⟩ ∈ TG := List.mem_filter.mpr ⟨List.mem_of_getElem? (i := 947) (by decide +kernel), rfl⟩
theorem wd_948 : Cond.code ⟨"DuelSamplesModel", "finds", "()Z"⟩ prog_8_method_29_code 5 (Option.some Jvm.ClassFile.FieldType.boolean) ∈ TG := List.mem_filter.mpr ⟨List.mem_of_getElem? (i := 948) (by decide +kernel), rfl⟩
theorem wd_949 : Cond.methodLink "DuelSamplesModel" 143 ⟨"DuelSamplesModel", "firstOpen", "(I)I"⟩ ∈ TG := List.mem_filter.mpr ⟨List.mem_of_getElem? (i := 949) (by decide +kernel), rfl⟩
theorem wd_951 : Cond.instanceMethod ⟨"DuelSamplesModel", "firstOpen", "(I)I"⟩ ∈ TG := List.mem_filter.mpr ⟨List.mem_of_getElem? (i := 951) (by decide +kernel), rfl⟩
theorem wd_952 : Cond.code ⟨"DuelSamplesModel", "firstOpen", "(I)I"⟩ prog_8_method_25_code 3 (Option.some Jvm.ClassFile.FieldType.int) ∈ TG := List.mem_filter.mpr ⟨List.mem_of_getElem? (i := 952) (by decide +kernel), rfl⟩
theorem wd_953 : Cond.methodLink "DuelSamplesModel" 137 ⟨"DuelSamplesModel", "isOpen", "(I)Z"⟩ ∈ TG := List.mem_filter.mpr ⟨List.mem_of_getElem? (i := 953) (by decide +kernel), rfl⟩
theorem wd_955 : Cond.instanceMethod ⟨"DuelSamplesModel", "isOpen", "(I)Z"⟩ ∈ TG := List.mem_filter.mpr ⟨List.mem_of_getElem? (i := 955) (by decide +kernel), rfl⟩
theorem wd_956 : Cond.code ⟨"DuelSamplesModel", "isOpen", "(I)Z"⟩ prog_8_method_24_code 2 (Option.some Jvm.ClassFile.FieldType.boolean) ∈ TG := List.mem_filter.mpr ⟨List.mem_of_getElem? (i := 956) (by decide +kernel), rfl⟩
theorem wd_957 : Cond.methodLink "DuelSamplesModel" 152 ⟨"DuelSamplesModel", "bestOf", "(II)I"⟩ ∈ TG := List.mem_filter.mpr ⟨List.mem_of_getElem? (i := 957) (by decide +kernel), rfl⟩
theorem wd_959 : Cond.instanceMethod ⟨"DuelSamplesModel", "bestOf", "(II)I"⟩ ∈ TG := List.mem_filter.mpr ⟨List.mem_of_getElem? (i := 959) (by decide +kernel), rfl⟩
theorem wd_960 : Cond.code ⟨"DuelSamplesModel", "bestOf", "(II)I"⟩ prog_8_method_27_code 8 (Option.some Jvm.ClassFile.FieldType.int) ∈ TG := List.mem_filter.mpr ⟨List.mem_of_getElem? (i := 960) (by decide +kernel), rfl⟩
theorem wd_961 : Cond.methodLink "DuelSamplesModel" 140 ⟨"DuelSamplesModel", "far", "(II)I"⟩ ∈ TG := List.mem_filter.mpr ⟨List.mem_of_getElem? (i := 961) (by decide +kernel), rfl⟩
theorem wd_962 : Cond.static ⟨"DuelSamplesModel", "far", "(II)I"⟩ ∈ TG := List.mem_filter.mpr ⟨List.mem_of_getElem? (i := 962) (by decide +kernel), rfl⟩
theorem wd_963 : Cond.code ⟨"DuelSamplesModel", "far", "(II)I"⟩ prog_8_method_26_code 2 (Option.some Jvm.ClassFile.FieldType.int) ∈ TG := List.mem_filter.mpr ⟨List.mem_of_getElem? (i := 963) (by decide +kernel), rfl⟩
theorem wd_964 : Cond.methodLink "DuelSamplesModel" 155 ⟨"DuelSamplesModel", "nextIn", "(II)I"⟩ ∈ TG := List.mem_filter.mpr ⟨List.mem_of_getElem? (i := 964) (by decide +kernel), rfl⟩
theorem wd_966 : Cond.instanceMethod ⟨"DuelSamplesModel", "nextIn", "(II)I"⟩ ∈ TG := List.mem_filter.mpr ⟨List.mem_of_getElem? (i := 966) (by decide +kernel), rfl⟩
theorem wd_967 : Cond.code ⟨"DuelSamplesModel", "nextIn", "(II)I"⟩ prog_8_method_28_code 4 (Option.some Jvm.ClassFile.FieldType.int) ∈ TG := List.mem_filter.mpr ⟨List.mem_of_getElem? (i := 967) (by decide +kernel), rfl⟩
theorem wd_968 : Cond.methodLink "DuelSamplesModel" 174 ⟨"DuelSamplesModel", "sizeOfPlay", "()I"⟩ ∈ TG := List.mem_filter.mpr ⟨List.mem_of_getElem? (i := 968) (by decide +kernel), rfl⟩
theorem wd_970 : Cond.instanceMethod ⟨"DuelSamplesModel", "sizeOfPlay", "()I"⟩ ∈ TG := List.mem_filter.mpr ⟨List.mem_of_getElem? (i := 970) (by decide +kernel), rfl⟩
theorem wd_971 : Cond.code ⟨"DuelSamplesModel", "sizeOfPlay", "()I"⟩ prog_8_method_30_code 2 (Option.some Jvm.ClassFile.FieldType.int) ∈ TG := List.mem_filter.mpr ⟨List.mem_of_getElem? (i := 971) (by decide +kernel), rfl⟩
theorem wd_972 : Cond.methodLink "DuelSamplesModel" 177 ⟨"DuelSamplesModel", "chancesOfOne", "()I"⟩ ∈ TG := List.mem_filter.mpr ⟨List.mem_of_getElem? (i := 972) (by decide +kernel), rfl⟩
theorem wd_974 : Cond.instanceMethod ⟨"DuelSamplesModel", "chancesOfOne", "()I"⟩ ∈ TG := List.mem_filter.mpr ⟨List.mem_of_getElem? (i := 974) (by decide +kernel), rfl⟩
theorem wd_975 : Cond.code ⟨"DuelSamplesModel", "chancesOfOne", "()I"⟩ prog_8_method_31_code 1 (Option.some Jvm.ClassFile.FieldType.int) ∈ TG := List.mem_filter.mpr ⟨List.mem_of_getElem? (i := 975) (by decide +kernel), rfl⟩
theorem wd_976 : Cond.methodLink "DuelSamplesModel" 180 ⟨"DuelSamplesModel", "gets", "(Z)V"⟩ ∈ TG := List.mem_filter.mpr ⟨List.mem_of_getElem? (i := 976) (by decide +kernel), rfl⟩
theorem wd_978 : Cond.instanceMethod ⟨"DuelSamplesModel", "gets", "(Z)V"⟩ ∈ TG := List.mem_filter.mpr ⟨List.mem_of_getElem? (i := 978) (by decide +kernel), rfl⟩
theorem wd_979 : Cond.code ⟨"DuelSamplesModel", "gets", "(Z)V"⟩ prog_8_method_32_code 4 (Option.none : Option Jvm.ClassFile.FieldType) ∈ TG := List.mem_filter.mpr ⟨List.mem_of_getElem? (i := 979) (by decide +kernel), rfl⟩
theorem wd_980 : Cond.methodLink "DuelSamplesModel" 184 ⟨"DuelSamplesModel", "sampleNow", "()I"⟩ ∈ TG := List.mem_filter.mpr ⟨List.mem_of_getElem? (i := 980) (by decide +kernel), rfl⟩
theorem wd_982 : Cond.instanceMethod ⟨"DuelSamplesModel", "sampleNow", "()I"⟩ ∈ TG := List.mem_filter.mpr ⟨List.mem_of_getElem? (i := 982) (by decide +kernel), rfl⟩
theorem wd_983 : Cond.code ⟨"DuelSamplesModel", "sampleNow", "()I"⟩ prog_8_method_34_code 3 (Option.some Jvm.ClassFile.FieldType.int) ∈ TG := List.mem_filter.mpr ⟨List.mem_of_getElem? (i := 983) (by decide +kernel), rfl⟩
theorem wd_984 : Cond.methodLink "DuelSamplesModel" 190 ⟨"DuelSamplesModel", "bits", "(I)I"⟩ ∈ TG := List.mem_filter.mpr ⟨List.mem_of_getElem? (i := 984) (by decide +kernel), rfl⟩
theorem wd_985 : Cond.static ⟨"DuelSamplesModel", "bits", "(I)I"⟩ ∈ TG := List.mem_filter.mpr ⟨List.mem_of_getElem? (i := 985) (by decide +kernel), rfl⟩
theorem wd_986 : Cond.code ⟨"DuelSamplesModel", "bits", "(I)I"⟩ prog_8_method_10_code 3 (Option.some Jvm.ClassFile.FieldType.int) ∈ TG := List.mem_filter.mpr ⟨List.mem_of_getElem? (i := 986) (by decide +kernel), rfl⟩
theorem wd_987 : Cond.methodLink "DuelSamplesLaw" 53 ⟨"DuelSamplesModel", "was", "(I)I"⟩ ∈ TG := List.mem_filter.mpr ⟨List.mem_of_getElem? (i := 987) (by decide +kernel), rfl⟩
theorem wd_988 : Cond.instanceMethod ⟨"DuelSamplesModel", "was", "(I)I"⟩ ∈ TG := List.mem_filter.mpr ⟨List.mem_of_getElem? (i := 988) (by decide +kernel), rfl⟩
theorem wd_989 : Cond.selects "DuelSamplesModel" ⟨"DuelSamplesModel", "was", "(I)I"⟩ ⟨"DuelSamplesModel", "was", "(I)I"⟩ ∈ TG := List.mem_filter.mpr ⟨List.mem_of_getElem? (i := 989) (by decide +kernel), rfl⟩
theorem wd_990 : Cond.code ⟨"DuelSamplesModel", "was", "(I)I"⟩ prog_8_method_40_code 2 (Option.some Jvm.ClassFile.FieldType.int) ∈ TG := List.mem_filter.mpr ⟨List.mem_of_getElem? (i := 990) (by decide +kernel), rfl⟩
theorem wd_991 : Cond.methodLink "DuelSamplesModel" 199 ⟨"DuelSamplesModel", "wasOf", "(I)I"⟩ ∈ TG := List.mem_filter.mpr ⟨List.mem_of_getElem? (i := 991) (by decide +kernel), rfl⟩
theorem wd_993 : Cond.instanceMethod ⟨"DuelSamplesModel", "wasOf", "(I)I"⟩ ∈ TG := List.mem_filter.mpr ⟨List.mem_of_getElem? (i := 993) (by decide +kernel), rfl⟩
theorem wd_994 : Cond.code ⟨"DuelSamplesModel", "wasOf", "(I)I"⟩ prog_8_method_39_code 2 (Option.some Jvm.ClassFile.FieldType.int) ∈ TG := List.mem_filter.mpr ⟨List.mem_of_getElem? (i := 994) (by decide +kernel), rfl⟩
theorem wd_995 : Cond.methodLink "DuelSamplesLaw" 57 ⟨"DuelSamplesModel", "play", "(II)I"⟩ ∈ TG := List.mem_filter.mpr ⟨List.mem_of_getElem? (i := 995) (by decide +kernel), rfl⟩
theorem wd_996 : Cond.instanceMethod ⟨"DuelSamplesModel", "play", "(II)I"⟩ ∈ TG := List.mem_filter.mpr ⟨List.mem_of_getElem? (i := 996) (by decide +kernel), rfl⟩
theorem wd_997 : Cond.selects "DuelSamplesModel" ⟨"DuelSamplesModel", "play", "(II)I"⟩ ⟨"DuelSamplesModel", "play", "(II)I"⟩ ∈ TG := List.mem_filter.mpr ⟨List.mem_of_getElem? (i := 997) (by decide +kernel), rfl⟩
theorem wd_998 : Cond.code ⟨"DuelSamplesModel", "play", "(II)I"⟩ prog_8_method_41_code 3 (Option.some Jvm.ClassFile.FieldType.int) ∈ TG := List.mem_filter.mpr ⟨List.mem_of_getElem? (i := 998) (by decide +kernel), rfl⟩
theorem wd_999 : Cond.constantLong "DuelSamplesModel" 202 (2) ∈ TG := List.mem_filter.mpr ⟨List.mem_of_getElem? (i := 999) (by decide +kernel), rfl⟩
theorem wd_1000 : Cond.methodLink "DuelSamplesLaw" 62 ⟨"DuelSamplesModel", "counted", "(I)J"⟩ ∈ TG := List.mem_filter.mpr ⟨List.mem_of_getElem? (i := 1000) (by decide +kernel), rfl⟩
theorem wd_1001 : Cond.instanceMethod ⟨"DuelSamplesModel", "counted", "(I)J"⟩ ∈ TG := List.mem_filter.mpr ⟨List.mem_of_getElem? (i := 1001) (by decide +kernel), rfl⟩
theorem wd_1002 : Cond.selects "DuelSamplesModel" ⟨"DuelSamplesModel", "counted", "(I)J"⟩ ⟨"DuelSamplesModel", "counted", "(I)J"⟩ ∈ TG := List.mem_filter.mpr ⟨List.mem_of_getElem? (i := 1002) (by decide +kernel), rfl⟩
theorem wd_1003 : Cond.code ⟨"DuelSamplesModel", "counted", "(I)J"⟩ prog_8_method_44_code 2 (Option.some Jvm.ClassFile.FieldType.long) ∈ TG := List.mem_filter.mpr ⟨List.mem_of_getElem? (i := 1003) (by decide +kernel), rfl⟩
theorem wd_1004 : Cond.methodLink "DuelSamplesModel" 205 ⟨"DuelSamplesModel", "countedUp", "(II)J"⟩ ∈ TG := List.mem_filter.mpr ⟨List.mem_of_getElem? (i := 1004) (by decide +kernel), rfl⟩
theorem wd_1006 : Cond.instanceMethod ⟨"DuelSamplesModel", "countedUp", "(II)J"⟩ ∈ TG := List.mem_filter.mpr ⟨List.mem_of_getElem? (i := 1006) (by decide +kernel), rfl⟩
theorem wd_1007 : Cond.code ⟨"DuelSamplesModel", "countedUp", "(II)J"⟩ prog_8_method_42_code 7 (Option.some Jvm.ClassFile.FieldType.long) ∈ TG := List.mem_filter.mpr ⟨List.mem_of_getElem? (i := 1007) (by decide +kernel), rfl⟩
theorem wd_1008 : Cond.constant "DuelSamplesModel" 204 (332640) ∈ TG := List.mem_filter.mpr ⟨List.mem_of_getElem? (i := 1008) (by decide +kernel), rfl⟩
theorem wd_1009 : Cond.methodLink "DuelSamplesModel" 211 ⟨"DuelSamplesModel", "missOf", "(I)J"⟩ ∈ TG := List.mem_filter.mpr ⟨List.mem_of_getElem? (i := 1009) (by decide +kernel), rfl⟩
theorem wd_1011 : Cond.instanceMethod ⟨"DuelSamplesModel", "missOf", "(I)J"⟩ ∈ TG := List.mem_filter.mpr ⟨List.mem_of_getElem? (i := 1011) (by decide +kernel), rfl⟩
theorem wd_1012 : Cond.code ⟨"DuelSamplesModel", "missOf", "(I)J"⟩ prog_8_method_43_code 4 (Option.some Jvm.ClassFile.FieldType.long) ∈ TG := List.mem_filter.mpr ⟨List.mem_of_getElem? (i := 1012) (by decide +kernel), rfl⟩
theorem wd_1013 : Cond.constantLong "DuelSamplesModel" 209 (27720) ∈ TG := List.mem_filter.mpr ⟨List.mem_of_getElem? (i := 1013) (by decide +kernel), rfl⟩
theorem wd_1014 : Cond.methodLink "DuelSamplesLaw" 66 ⟨"DuelSamplesModel", "inside", "(I)I"⟩ ∈ TG := List.mem_filter.mpr ⟨List.mem_of_getElem? (i := 1014) (by decide +kernel), rfl⟩
theorem wd_1015 : Cond.instanceMethod ⟨"DuelSamplesModel", "inside", "(I)I"⟩ ∈ TG := List.mem_filter.mpr ⟨List.mem_of_getElem? (i := 1015) (by decide +kernel), rfl⟩
theorem wd_1016 : Cond.selects "DuelSamplesModel" ⟨"DuelSamplesModel", "inside", "(I)I"⟩ ⟨"DuelSamplesModel", "inside", "(I)I"⟩ ∈ TG := List.mem_filter.mpr ⟨List.mem_of_getElem? (i := 1016) (by decide +kernel), rfl⟩
theorem wd_1017 : Cond.code ⟨"DuelSamplesModel", "inside", "(I)I"⟩ prog_8_method_45_code 4 (Option.some Jvm.ClassFile.FieldType.int) ∈ TG := List.mem_filter.mpr ⟨List.mem_of_getElem? (i := 1017) (by decide +kernel), rfl⟩
theorem wd_1018 : Cond.methodLink "DuelSamplesLaw" 70 ⟨"DuelSamplesModel", "spread", "()I"⟩ ∈ TG := List.mem_filter.mpr ⟨List.mem_of_getElem? (i := 1018) (by decide +kernel), rfl⟩
theorem wd_1019 : Cond.instanceMethod ⟨"DuelSamplesModel", "spread", "()I"⟩ ∈ TG := List.mem_filter.mpr ⟨List.mem_of_getElem? (i := 1019) (by decide +kernel), rfl⟩
theorem wd_1020 : Cond.selects "DuelSamplesModel" ⟨"DuelSamplesModel", "spread", "()I"⟩ ⟨"DuelSamplesModel", "spread", "()I"⟩ ∈ TG := List.mem_filter.mpr ⟨List.mem_of_getElem? (i := 1020) (by decide +kernel), rfl⟩
theorem wd_1021 : Cond.code ⟨"DuelSamplesModel", "spread", "()I"⟩ prog_8_method_46_code 6 (Option.some Jvm.ClassFile.FieldType.int) ∈ TG := List.mem_filter.mpr ⟨List.mem_of_getElem? (i := 1021) (by decide +kernel), rfl⟩
theorem wd_1022 : Cond.methodLink "DuelSamplesLaw" 79 ⟨"DuelSamplesModel", "both", "(IIII)I"⟩ ∈ TG := List.mem_filter.mpr ⟨List.mem_of_getElem? (i := 1022) (by decide +kernel), rfl⟩
theorem wd_1023 : Cond.instanceMethod ⟨"DuelSamplesModel", "both", "(IIII)I"⟩ ∈ TG := List.mem_filter.mpr ⟨List.mem_of_getElem? (i := 1023) (by decide +kernel), rfl⟩
theorem wd_1024 : Cond.selects "DuelSamplesModel" ⟨"DuelSamplesModel", "both", "(IIII)I"⟩ ⟨"DuelSamplesModel", "both", "(IIII)I"⟩ ∈ TG := List.mem_filter.mpr ⟨List.mem_of_getElem? (i := 1024) (by decide +kernel), rfl⟩
theorem wd_1025 : Cond.code ⟨"DuelSamplesModel", "both", "(IIII)I"⟩ prog_8_method_49_code 5 (Option.some Jvm.ClassFile.FieldType.int) ∈ TG := List.mem_filter.mpr ⟨List.mem_of_getElem? (i := 1025) (by decide +kernel), rfl⟩
theorem wd_1026 : Cond.methodLink "DuelSamplesModel" 218 ⟨"DuelSamplesModel", "areSeeds", "(II)Z"⟩ ∈ TG := List.mem_filter.mpr ⟨List.mem_of_getElem? (i := 1026) (by decide +kernel), rfl⟩
theorem wd_1027 : Cond.static ⟨"DuelSamplesModel", "areSeeds", "(II)Z"⟩ ∈ TG := List.mem_filter.mpr ⟨List.mem_of_getElem? (i := 1027) (by decide +kernel), rfl⟩
theorem wd_1028 : Cond.code ⟨"DuelSamplesModel", "areSeeds", "(II)Z"⟩ prog_8_method_47_code 2 (Option.some Jvm.ClassFile.FieldType.boolean) ∈ TG := List.mem_filter.mpr ⟨List.mem_of_getElem? (i := 1028) (by decide +kernel), rfl⟩
theorem wd_1029 : Cond.constantLong "DuelSamplesModel" 215 (60) ∈ TG := List.mem_filter.mpr ⟨List.mem_of_getElem? (i := 1029) (by decide +kernel), rfl⟩
theorem wd_1030 : Cond.constant "DuelSamplesModel" 217 (1000000) ∈ TG := List.mem_filter.mpr ⟨List.mem_of_getElem? (i := 1030) (by decide +kernel), rfl⟩
theorem wd_1031 : Cond.methodLink "DuelSamplesModel" 221 ⟨"DuelSamplesModel", "howOften", "(III)I"⟩ ∈ TG := List.mem_filter.mpr ⟨List.mem_of_getElem? (i := 1031) (by decide +kernel), rfl⟩
theorem wd_1033 : Cond.instanceMethod ⟨"DuelSamplesModel", "howOften", "(III)I"⟩ ∈ TG := List.mem_filter.mpr ⟨List.mem_of_getElem? (i := 1033) (by decide +kernel), rfl⟩
theorem wd_1034 : Cond.code ⟨"DuelSamplesModel", "howOften", "(III)I"⟩ prog_8_method_48_code 6 (Option.some Jvm.ClassFile.FieldType.int) ∈ TG := List.mem_filter.mpr ⟨List.mem_of_getElem? (i := 1034) (by decide +kernel), rfl⟩
theorem wd_1035 : Cond.methodLink "DuelSamplesLaw" 74 ⟨"DuelSamplesModel", "often", "(III)I"⟩ ∈ TG := List.mem_filter.mpr ⟨List.mem_of_getElem? (i := 1035) (by decide +kernel), rfl⟩
theorem wd_1036 : Cond.instanceMethod ⟨"DuelSamplesModel", "often", "(III)I"⟩ ∈ TG := List.mem_filter.mpr ⟨List.mem_of_getElem? (i := 1036) (by decide +kernel), rfl⟩
theorem wd_1037 : Cond.selects "DuelSamplesModel" ⟨"DuelSamplesModel", "often", "(III)I"⟩ ⟨"DuelSamplesModel", "often", "(III)I"⟩ ∈ TG := List.mem_filter.mpr ⟨List.mem_of_getElem? (i := 1037) (by decide +kernel), rfl⟩
theorem wd_1038 : Cond.code ⟨"DuelSamplesModel", "often", "(III)I"⟩ prog_8_method_50_code 4 (Option.some Jvm.ClassFile.FieldType.int) ∈ TG := List.mem_filter.mpr ⟨List.mem_of_getElem? (i := 1038) (by decide +kernel), rfl⟩
theorem wd_1039 : Cond.methodLink "DuelSamplesLaw" 84 ⟨"DuelSamplesModel", "best", "(III)J"⟩ ∈ TG := List.mem_filter.mpr ⟨List.mem_of_getElem? (i := 1039) (by decide +kernel), rfl⟩
theorem wd_1040 : Cond.instanceMethod ⟨"DuelSamplesModel", "best", "(III)J"⟩ ∈ TG := List.mem_filter.mpr ⟨List.mem_of_getElem? (i := 1040) (by decide +kernel), rfl⟩
theorem wd_1041 : Cond.selects "DuelSamplesModel" ⟨"DuelSamplesModel", "best", "(III)J"⟩ ⟨"DuelSamplesModel", "best", "(III)J"⟩ ∈ TG := List.mem_filter.mpr ⟨List.mem_of_getElem? (i := 1041) (by decide +kernel), rfl⟩
theorem wd_1042 : Cond.code ⟨"DuelSamplesModel", "best", "(III)J"⟩ prog_8_method_51_code 10 (Option.some Jvm.ClassFile.FieldType.long) ∈ TG := List.mem_filter.mpr ⟨List.mem_of_getElem? (i := 1042) (by decide +kernel), rfl⟩
theorem wd_1043 : Cond.methodLink "DuelSamplesLaw" 88 ⟨"DuelSamplesModel", "many", "()I"⟩ ∈ TG := List.mem_filter.mpr ⟨List.mem_of_getElem? (i := 1043) (by decide +kernel), rfl⟩
theorem wd_1044 : Cond.instanceMethod ⟨"DuelSamplesModel", "many", "()I"⟩ ∈ TG := List.mem_filter.mpr ⟨List.mem_of_getElem? (i := 1044) (by decide +kernel), rfl⟩
theorem wd_1045 : Cond.selects "DuelSamplesModel" ⟨"DuelSamplesModel", "many", "()I"⟩ ⟨"DuelSamplesModel", "many", "()I"⟩ ∈ TG := List.mem_filter.mpr ⟨List.mem_of_getElem? (i := 1045) (by decide +kernel), rfl⟩
theorem wd_1046 : Cond.code ⟨"DuelSamplesModel", "many", "()I"⟩ prog_8_method_53_code 3 (Option.some Jvm.ClassFile.FieldType.int) ∈ TG := List.mem_filter.mpr ⟨List.mem_of_getElem? (i := 1046) (by decide +kernel), rfl⟩
theorem wd_1047 : Cond.methodLink "DuelSamplesModel" 224 ⟨"DuelSamplesModel", "layCan", "()V"⟩ ∈ TG := List.mem_filter.mpr ⟨List.mem_of_getElem? (i := 1047) (by decide +kernel), rfl⟩
theorem wd_1049 : Cond.instanceMethod ⟨"DuelSamplesModel", "layCan", "()V"⟩ ∈ TG := List.mem_filter.mpr ⟨List.mem_of_getElem? (i := 1049) (by decide +kernel), rfl⟩
theorem wd_1050 : Cond.code ⟨"DuelSamplesModel", "layCan", "()V"⟩ prog_8_method_52_code 4 (Option.none : Option Jvm.ClassFile.FieldType) ∈ TG := List.mem_filter.mpr ⟨List.mem_of_getElem? (i := 1050) (by decide +kernel), rfl⟩
theorem wd_1051 : Cond.methodLink "DuelSamplesLaw" 92 ⟨"DuelSamplesModel", "sizes", "(I)I"⟩ ∈ TG := List.mem_filter.mpr ⟨List.mem_of_getElem? (i := 1051) (by decide +kernel), rfl⟩
theorem wd_1052 : Cond.instanceMethod ⟨"DuelSamplesModel", "sizes", "(I)I"⟩ ∈ TG := List.mem_filter.mpr ⟨List.mem_of_getElem? (i := 1052) (by decide +kernel), rfl⟩
theorem wd_1053 : Cond.selects "DuelSamplesModel" ⟨"DuelSamplesModel", "sizes", "(I)I"⟩ ⟨"DuelSamplesModel", "sizes", "(I)I"⟩ ∈ TG := List.mem_filter.mpr ⟨List.mem_of_getElem? (i := 1053) (by decide +kernel), rfl⟩
theorem wd_1054 : Cond.code ⟨"DuelSamplesModel", "sizes", "(I)I"⟩ prog_8_method_54_code 5 (Option.some Jvm.ClassFile.FieldType.int) ∈ TG := List.mem_filter.mpr ⟨List.mem_of_getElem? (i := 1054) (by decide +kernel), rfl⟩
theorem wd_1055 : Cond.methodLink "DuelSamplesLaw" 96 ⟨"DuelSamplesModel", "can", "(II)I"⟩ ∈ TG := List.mem_filter.mpr ⟨List.mem_of_getElem? (i := 1055) (by decide +kernel), rfl⟩
theorem wd_1056 : Cond.instanceMethod ⟨"DuelSamplesModel", "can", "(II)I"⟩ ∈ TG := List.mem_filter.mpr ⟨List.mem_of_getElem? (i := 1056) (by decide +kernel), rfl⟩
theorem wd_1057 : Cond.selects "DuelSamplesModel" ⟨"DuelSamplesModel", "can", "(II)I"⟩ ⟨"DuelSamplesModel", "can", "(II)I"⟩ ∈ TG := List.mem_filter.mpr ⟨List.mem_of_getElem? (i := 1057) (by decide +kernel), rfl⟩
theorem wd_1058 : Cond.code ⟨"DuelSamplesModel", "can", "(II)I"⟩ prog_8_method_55_code 6 (Option.some Jvm.ClassFile.FieldType.int) ∈ TG := List.mem_filter.mpr ⟨List.mem_of_getElem? (i := 1058) (by decide +kernel), rfl⟩
theorem wd_1059 : Cond.methodLink "DuelSamplesLaw" 101 ⟨"DuelSamplesModel", "least", "()J"⟩ ∈ TG := List.mem_filter.mpr ⟨List.mem_of_getElem? (i := 1059) (by decide +kernel), rfl⟩
theorem wd_1060 : Cond.instanceMethod ⟨"DuelSamplesModel", "least", "()J"⟩ ∈ TG := List.mem_filter.mpr ⟨List.mem_of_getElem? (i := 1060) (by decide +kernel), rfl⟩
theorem wd_1061 : Cond.selects "DuelSamplesModel" ⟨"DuelSamplesModel", "least", "()J"⟩ ⟨"DuelSamplesModel", "least", "()J"⟩ ∈ TG := List.mem_filter.mpr ⟨List.mem_of_getElem? (i := 1061) (by decide +kernel), rfl⟩
theorem wd_1062 : Cond.code ⟨"DuelSamplesModel", "least", "()J"⟩ prog_8_method_56_code 6 (Option.some Jvm.ClassFile.FieldType.long) ∈ TG := List.mem_filter.mpr ⟨List.mem_of_getElem? (i := 1062) (by decide +kernel), rfl⟩
theorem wd_1063 : Cond.constantLong "DuelSamplesModel" 227 (-1) ∈ TG := List.mem_filter.mpr ⟨List.mem_of_getElem? (i := 1063) (by decide +kernel), rfl⟩
theorem wd_1064 : Cond.methodLink "DuelSamplesLaw" 105 ⟨"DuelSamplesModel", "type", "(I)I"⟩ ∈ TG := List.mem_filter.mpr ⟨List.mem_of_getElem? (i := 1064) (by decide +kernel), rfl⟩
theorem wd_1065 : Cond.instanceMethod ⟨"DuelSamplesModel", "type", "(I)I"⟩ ∈ TG := List.mem_filter.mpr ⟨List.mem_of_getElem? (i := 1065) (by decide +kernel), rfl⟩
theorem wd_1066 : Cond.selects "DuelSamplesModel" ⟨"DuelSamplesModel", "type", "(I)I"⟩ ⟨"DuelSamplesModel", "type", "(I)I"⟩ ∈ TG := List.mem_filter.mpr ⟨List.mem_of_getElem? (i := 1066) (by decide +kernel), rfl⟩
theorem wd_1067 : Cond.code ⟨"DuelSamplesModel", "type", "(I)I"⟩ prog_8_method_57_code 2 (Option.some Jvm.ClassFile.FieldType.int) ∈ TG := List.mem_filter.mpr ⟨List.mem_of_getElem? (i := 1067) (by decide +kernel), rfl⟩
theorem wd_1068 : Cond.constantLong "DuelSamplesModel" 229 (127) ∈ TG := List.mem_filter.mpr ⟨List.mem_of_getElem? (i := 1068) (by decide +kernel), rfl⟩
theorem wd_1069 : Cond.methodLink "DuelSamplesLaw" 109 ⟨"DuelSamplesModel", "clear", "()I"⟩ ∈ TG := List.mem_filter.mpr ⟨List.mem_of_getElem? (i := 1069) (by decide +kernel), rfl⟩
theorem wd_1070 : Cond.instanceMethod ⟨"DuelSamplesModel", "clear", "()I"⟩ ∈ TG := List.mem_filter.mpr ⟨List.mem_of_getElem? (i := 1070) (by decide +kernel), rfl⟩
theorem wd_1071 : Cond.selects "DuelSamplesModel" ⟨"DuelSamplesModel", "clear", "()I"⟩ ⟨"DuelSamplesModel", "clear", "()I"⟩ ∈ TG := List.mem_filter.mpr ⟨List.mem_of_getElem? (i := 1071) (by decide +kernel), rfl⟩
theorem wd_1072 : Cond.code ⟨"DuelSamplesModel", "clear", "()I"⟩ prog_8_method_58_code 2 (Option.some Jvm.ClassFile.FieldType.int) ∈ TG := List.mem_filter.mpr ⟨List.mem_of_getElem? (i := 1072) (by decide +kernel), rfl⟩
theorem wd_1073 : Cond.methodLink "DuelSamplesLaw" 113 ⟨"DuelSamplesModel", "says", "()I"⟩ ∈ TG := List.mem_filter.mpr ⟨List.mem_of_getElem? (i := 1073) (by decide +kernel), rfl⟩
theorem wd_1074 : Cond.instanceMethod ⟨"DuelSamplesModel", "says", "()I"⟩ ∈ TG := List.mem_filter.mpr ⟨List.mem_of_getElem? (i := 1074) (by decide +kernel), rfl⟩
theorem wd_1075 : Cond.selects "DuelSamplesModel" ⟨"DuelSamplesModel", "says", "()I"⟩ ⟨"DuelSamplesModel", "says", "()I"⟩ ∈ TG := List.mem_filter.mpr ⟨List.mem_of_getElem? (i := 1075) (by decide +kernel), rfl⟩
theorem wd_1076 : Cond.code ⟨"DuelSamplesModel", "says", "()I"⟩ prog_8_method_75_code 1 (Option.some Jvm.ClassFile.FieldType.int) ∈ TG := List.mem_filter.mpr ⟨List.mem_of_getElem? (i := 1076) (by decide +kernel), rfl⟩
theorem wd_1077 : Cond.methodLink "DuelSamplesModel" 294 ⟨"DuelSamplesModel", "goesThrough", "(Z)I"⟩ ∈ TG := List.mem_filter.mpr ⟨List.mem_of_getElem? (i := 1077) (by decide +kernel), rfl⟩
theorem wd_1079 : Cond.instanceMethod ⟨"DuelSamplesModel", "goesThrough", "(Z)I"⟩ ∈ TG := List.mem_filter.mpr ⟨List.mem_of_getElem? (i := 1079) (by decide +kernel), rfl⟩
theorem wd_1080 : Cond.code ⟨"DuelSamplesModel", "goesThrough", "(Z)I"⟩ prog_8_method_74_code 6 (Option.some Jvm.ClassFile.FieldType.int) ∈ TG := List.mem_filter.mpr ⟨List.mem_of_getElem? (i := 1080) (by decide +kernel), rfl⟩
theorem wd_1081 : Cond.methodLink "DuelSamplesModel" 259 ⟨"DuelSamplesModel", "skip", "()V"⟩ ∈ TG := List.mem_filter.mpr ⟨List.mem_of_getElem? (i := 1081) (by decide +kernel), rfl⟩
theorem wd_1083 : Cond.instanceMethod ⟨"DuelSamplesModel", "skip", "()V"⟩ ∈ TG := List.mem_filter.mpr ⟨List.mem_of_getElem? (i := 1083) (by decide +kernel), rfl⟩
theorem wd_1084 : Cond.code ⟨"DuelSamplesModel", "skip", "()V"⟩ prog_8_method_65_code 1 (Option.none : Option Jvm.ClassFile.FieldType) ∈ TG := List.mem_filter.mpr ⟨List.mem_of_getElem? (i := 1084) (by decide +kernel), rfl⟩
theorem wd_1085 : Cond.methodLink "DuelSamplesModel" 288 ⟨"DuelSamplesModel", "reads", "(I)I"⟩ ∈ TG := List.mem_filter.mpr ⟨List.mem_of_getElem? (i := 1085) (by decide +kernel), rfl⟩
theorem wd_1087 : Cond.instanceMethod ⟨"DuelSamplesModel", "reads", "(I)I"⟩ ∈ TG := List.mem_filter.mpr ⟨List.mem_of_getElem? (i := 1087) (by decide +kernel), rfl⟩
theorem wd_1088 : Cond.code ⟨"DuelSamplesModel", "reads", "(I)I"⟩ prog_8_method_71_code 6 (Option.some Jvm.ClassFile.FieldType.int) ∈ TG := List.mem_filter.mpr ⟨List.mem_of_getElem? (i := 1088) (by decide +kernel), rfl⟩
theorem wd_1089 : Cond.methodLink "DuelSamplesModel" 267 ⟨"DuelSamplesModel", "takesWord", "()I"⟩ ∈ TG := List.mem_filter.mpr ⟨List.mem_of_getElem? (i := 1089) (by decide +kernel), rfl⟩
theorem wd_1091 : Cond.instanceMethod ⟨"DuelSamplesModel", "takesWord", "()I"⟩ ∈ TG := List.mem_filter.mpr ⟨List.mem_of_getElem? (i := 1091) (by decide +kernel), rfl⟩
theorem wd_1092 : Cond.code ⟨"DuelSamplesModel", "takesWord", "()I"⟩ prog_8_method_67_code 6 (Option.some Jvm.ClassFile.FieldType.int) ∈ TG := List.mem_filter.mpr ⟨List.mem_of_getElem? (i := 1092) (by decide +kernel), rfl⟩
theorem wd_1093 : Cond.methodLink "DuelSamplesModel" 262 ⟨"DuelSamplesModel", "isByte", "(III)Z"⟩ ∈ TG := List.mem_filter.mpr ⟨List.mem_of_getElem? (i := 1093) (by decide +kernel), rfl⟩
theorem wd_1095 : Cond.instanceMethod ⟨"DuelSamplesModel", "isByte", "(III)Z"⟩ ∈ TG := List.mem_filter.mpr ⟨List.mem_of_getElem? (i := 1095) (by decide +kernel), rfl⟩
theorem wd_1096 : Cond.code ⟨"DuelSamplesModel", "isByte", "(III)Z"⟩ prog_8_method_66_code 4 (Option.some Jvm.ClassFile.FieldType.boolean) ∈ TG := List.mem_filter.mpr ⟨List.mem_of_getElem? (i := 1096) (by decide +kernel), rfl⟩
theorem wd_1097 : Cond.methodLink "DuelSamplesModel" 249 ⟨"DuelSamplesModel", "by27", "(JI)J"⟩ ∈ TG := List.mem_filter.mpr ⟨List.mem_of_getElem? (i := 1097) (by decide +kernel), rfl⟩
theorem wd_1098 : Cond.static ⟨"DuelSamplesModel", "by27", "(JI)J"⟩ ∈ TG := List.mem_filter.mpr ⟨List.mem_of_getElem? (i := 1098) (by decide +kernel), rfl⟩
theorem wd_1099 : Cond.code ⟨"DuelSamplesModel", "by27", "(JI)J"⟩ prog_8_method_62_code 3 (Option.some Jvm.ClassFile.FieldType.long) ∈ TG := List.mem_filter.mpr ⟨List.mem_of_getElem? (i := 1099) (by decide +kernel), rfl⟩
theorem wd_1100 : Cond.constantLong "DuelSamplesModel" 245 (27) ∈ TG := List.mem_filter.mpr ⟨List.mem_of_getElem? (i := 1100) (by decide +kernel), rfl⟩
theorem wd_1101 : Cond.constantLong "DuelSamplesModel" 247 (97) ∈ TG := List.mem_filter.mpr ⟨List.mem_of_getElem? (i := 1101) (by decide +kernel), rfl⟩
theorem wd_1102 : Cond.methodLink "DuelSamplesModel" 253 ⟨"DuelSamplesModel", "letters", "(I)J"⟩ ∈ TG := List.mem_filter.mpr ⟨List.mem_of_getElem? (i := 1102) (by decide +kernel), rfl⟩
theorem wd_1103 : Cond.static ⟨"DuelSamplesModel", "letters", "(I)J"⟩ ∈ TG := List.mem_filter.mpr ⟨List.mem_of_getElem? (i := 1103) (by decide +kernel), rfl⟩
theorem wd_1104 : Cond.code ⟨"DuelSamplesModel", "letters", "(I)J"⟩ prog_8_method_61_code 1 (Option.some Jvm.ClassFile.FieldType.long) ∈ TG := List.mem_filter.mpr ⟨List.mem_of_getElem? (i := 1104) (by decide +kernel), rfl⟩
theorem wd_1105 : Cond.methodLink "DuelSamplesModel" 241 ⟨"DuelSamplesModel", "spells", "(IIIIIII)J"⟩ ∈ TG := List.mem_filter.mpr ⟨List.mem_of_getElem? (i := 1105) (by decide +kernel), rfl⟩
theorem wd_1106 : Cond.static ⟨"DuelSamplesModel", "spells", "(IIIIIII)J"⟩ ∈ TG := List.mem_filter.mpr ⟨List.mem_of_getElem? (i := 1106) (by decide +kernel), rfl⟩
theorem wd_1107 : Cond.code ⟨"DuelSamplesModel", "spells", "(IIIIIII)J"⟩ prog_8_method_63_code 7 (Option.some Jvm.ClassFile.FieldType.long) ∈ TG := List.mem_filter.mpr ⟨List.mem_of_getElem? (i := 1107) (by decide +kernel), rfl⟩
theorem wd_1108 : Cond.methodLink "DuelSamplesModel" 270 ⟨"DuelSamplesModel", "argsOf", "(I)I"⟩ ∈ TG := List.mem_filter.mpr ⟨List.mem_of_getElem? (i := 1108) (by decide +kernel), rfl⟩
theorem wd_1110 : Cond.instanceMethod ⟨"DuelSamplesModel", "argsOf", "(I)I"⟩ ∈ TG := List.mem_filter.mpr ⟨List.mem_of_getElem? (i := 1110) (by decide +kernel), rfl⟩
theorem wd_1111 : Cond.code ⟨"DuelSamplesModel", "argsOf", "(I)I"⟩ prog_8_method_69_code 2 (Option.some Jvm.ClassFile.FieldType.int) ∈ TG := List.mem_filter.mpr ⟨List.mem_of_getElem? (i := 1111) (by decide +kernel), rfl⟩
theorem wd_1112 : Cond.methodLink "DuelSamplesModel" 273 ⟨"DuelSamplesModel", "mostAt", "(III)I"⟩ ∈ TG := List.mem_filter.mpr ⟨List.mem_of_getElem? (i := 1112) (by decide +kernel), rfl⟩
theorem wd_1114 : Cond.instanceMethod ⟨"DuelSamplesModel", "mostAt", "(III)I"⟩ ∈ TG := List.mem_filter.mpr ⟨List.mem_of_getElem? (i := 1114) (by decide +kernel), rfl⟩
theorem wd_1115 : Cond.code ⟨"DuelSamplesModel", "mostAt", "(III)I"⟩ prog_8_method_70_code 4 (Option.some Jvm.ClassFile.FieldType.int) ∈ TG := List.mem_filter.mpr ⟨List.mem_of_getElem? (i := 1115) (by decide +kernel), rfl⟩
theorem wd_1116 : Cond.constant "DuelSamplesModel" 266 (999999) ∈ TG := List.mem_filter.mpr ⟨List.mem_of_getElem? (i := 1116) (by decide +kernel), rfl⟩
theorem wd_1117 : Cond.methodLink "DuelSamplesModel" 276 ⟨"DuelSamplesModel", "takesNumber", "(II)I"⟩ ∈ TG := List.mem_filter.mpr ⟨List.mem_of_getElem? (i := 1117) (by decide +kernel), rfl⟩
theorem wd_1119 : Cond.instanceMethod ⟨"DuelSamplesModel", "takesNumber", "(II)I"⟩ ∈ TG := List.mem_filter.mpr ⟨List.mem_of_getElem? (i := 1119) (by decide +kernel), rfl⟩
theorem wd_1120 : Cond.code ⟨"DuelSamplesModel", "takesNumber", "(II)I"⟩ prog_8_method_68_code 6 (Option.some Jvm.ClassFile.FieldType.int) ∈ TG := List.mem_filter.mpr ⟨List.mem_of_getElem? (i := 1120) (by decide +kernel), rfl⟩
theorem wd_1121 : Cond.methodLink "DuelSamplesModel" 237 ⟨"DuelSamplesModel", "tells", "(I)V"⟩ ∈ TG := List.mem_filter.mpr ⟨List.mem_of_getElem? (i := 1121) (by decide +kernel), rfl⟩
theorem wd_1123 : Cond.instanceMethod ⟨"DuelSamplesModel", "tells", "(I)V"⟩ ∈ TG := List.mem_filter.mpr ⟨List.mem_of_getElem? (i := 1123) (by decide +kernel), rfl⟩
theorem wd_1124 : Cond.code ⟨"DuelSamplesModel", "tells", "(I)V"⟩ prog_8_method_59_code 2 (Option.none : Option Jvm.ClassFile.FieldType) ∈ TG := List.mem_filter.mpr ⟨List.mem_of_getElem? (i := 1124) (by decide +kernel), rfl⟩
theorem wd_1125 : Cond.methodLink "DuelSamplesModel" 291 ⟨"DuelSamplesModel", "does", "(I)V"⟩ ∈ TG := List.mem_filter.mpr ⟨List.mem_of_getElem? (i := 1125) (by decide +kernel), rfl⟩
theorem wd_1127 : Cond.instanceMethod ⟨"DuelSamplesModel", "does", "(I)V"⟩ ∈ TG := List.mem_filter.mpr ⟨List.mem_of_getElem? (i := 1127) (by decide +kernel), rfl⟩
theorem wd_1128 : Cond.code ⟨"DuelSamplesModel", "does", "(I)V"⟩ prog_8_method_73_code 3 (Option.none : Option Jvm.ClassFile.FieldType) ∈ TG := List.mem_filter.mpr ⟨List.mem_of_getElem? (i := 1128) (by decide +kernel), rfl⟩
theorem wd_1129 : Cond.methodLink "DuelSamplesModel" 282 ⟨"DuelSamplesModel", "tellsWord", "(I)V"⟩ ∈ TG := List.mem_filter.mpr ⟨List.mem_of_getElem? (i := 1129) (by decide +kernel), rfl⟩
theorem wd_1131 : Cond.instanceMethod ⟨"DuelSamplesModel", "tellsWord", "(I)V"⟩ ∈ TG := List.mem_filter.mpr ⟨List.mem_of_getElem? (i := 1131) (by decide +kernel), rfl⟩
theorem wd_1132 : Cond.code ⟨"DuelSamplesModel", "tellsWord", "(I)V"⟩ prog_8_method_64_code 6 (Option.none : Option Jvm.ClassFile.FieldType) ∈ TG := List.mem_filter.mpr ⟨List.mem_of_getElem? (i := 1132) (by decide +kernel), rfl⟩
theorem wd_1133 : Cond.methodLink "DuelSamplesModel" 279 ⟨"DuelSamplesModel", "tellsNumber", "(I)V"⟩ ∈ TG := List.mem_filter.mpr ⟨List.mem_of_getElem? (i := 1133) (by decide +kernel), rfl⟩
theorem wd_1135 : Cond.instanceMethod ⟨"DuelSamplesModel", "tellsNumber", "(I)V"⟩ ∈ TG := List.mem_filter.mpr ⟨List.mem_of_getElem? (i := 1135) (by decide +kernel), rfl⟩
theorem wd_1136 : Cond.code ⟨"DuelSamplesModel", "tellsNumber", "(I)V"⟩ prog_8_method_60_code 2 (Option.none : Option Jvm.ClassFile.FieldType) ∈ TG := List.mem_filter.mpr ⟨List.mem_of_getElem? (i := 1136) (by decide +kernel), rfl⟩
theorem wd_1137 : Cond.methodLink "DuelSamplesModel" 285 ⟨"DuelSamplesModel", "tellsSample", "()V"⟩ ∈ TG := List.mem_filter.mpr ⟨List.mem_of_getElem? (i := 1137) (by decide +kernel), rfl⟩
theorem wd_1139 : Cond.instanceMethod ⟨"DuelSamplesModel", "tellsSample", "()V"⟩ ∈ TG := List.mem_filter.mpr ⟨List.mem_of_getElem? (i := 1139) (by decide +kernel), rfl⟩
theorem wd_1140 : Cond.code ⟨"DuelSamplesModel", "tellsSample", "()V"⟩ prog_8_method_72_code 3 (Option.none : Option Jvm.ClassFile.FieldType) ∈ TG := List.mem_filter.mpr ⟨List.mem_of_getElem? (i := 1140) (by decide +kernel), rfl⟩
theorem wd_1141 : Cond.methodLink "DuelSamplesLaw" 117 ⟨"DuelSamplesModel", "answer", "(I)I"⟩ ∈ TG := List.mem_filter.mpr ⟨List.mem_of_getElem? (i := 1141) (by decide +kernel), rfl⟩
theorem wd_1142 : Cond.instanceMethod ⟨"DuelSamplesModel", "answer", "(I)I"⟩ ∈ TG := List.mem_filter.mpr ⟨List.mem_of_getElem? (i := 1142) (by decide +kernel), rfl⟩
theorem wd_1143 : Cond.selects "DuelSamplesModel" ⟨"DuelSamplesModel", "answer", "(I)I"⟩ ⟨"DuelSamplesModel", "answer", "(I)I"⟩ ∈ TG := List.mem_filter.mpr ⟨List.mem_of_getElem? (i := 1143) (by decide +kernel), rfl⟩
theorem wd_1144 : Cond.code ⟨"DuelSamplesModel", "answer", "(I)I"⟩ prog_8_method_76_code 2 (Option.some Jvm.ClassFile.FieldType.int) ∈ TG := List.mem_filter.mpr ⟨List.mem_of_getElem? (i := 1144) (by decide +kernel), rfl⟩
theorem wd_1145 : Cond.methodLink "DuelSamplesLaw" 121 ⟨"DuelSamplesModel", "told", "(I)I"⟩ ∈ TG := List.mem_filter.mpr ⟨List.mem_of_getElem? (i := 1145) (by decide +kernel), rfl⟩
theorem wd_1146 : Cond.instanceMethod ⟨"DuelSamplesModel", "told", "(I)I"⟩ ∈ TG := List.mem_filter.mpr ⟨List.mem_of_getElem? (i := 1146) (by decide +kernel), rfl⟩
theorem wd_1147 : Cond.selects "DuelSamplesModel" ⟨"DuelSamplesModel", "told", "(I)I"⟩ ⟨"DuelSamplesModel", "told", "(I)I"⟩ ∈ TG := List.mem_filter.mpr ⟨List.mem_of_getElem? (i := 1147) (by decide +kernel), rfl⟩
theorem wd_1148 : Cond.code ⟨"DuelSamplesModel", "told", "(I)I"⟩ prog_8_method_78_code 2 (Option.some Jvm.ClassFile.FieldType.int) ∈ TG := List.mem_filter.mpr ⟨List.mem_of_getElem? (i := 1148) (by decide +kernel), rfl⟩
theorem wd_1149 : Cond.constantLong "DuelSamplesModel" 298 (6) ∈ TG := List.mem_filter.mpr ⟨List.mem_of_getElem? (i := 1149) (by decide +kernel), rfl⟩
theorem wd_1150 : Cond.methodLink "DuelSamplesModel" 300 ⟨"DuelSamplesModel", "toldOf", "(I)I"⟩ ∈ TG := List.mem_filter.mpr ⟨List.mem_of_getElem? (i := 1150) (by decide +kernel), rfl⟩
theorem wd_1152 : Cond.instanceMethod ⟨"DuelSamplesModel", "toldOf", "(I)I"⟩ ∈ TG := List.mem_filter.mpr ⟨List.mem_of_getElem? (i := 1152) (by decide +kernel), rfl⟩
theorem wd_1153 : Cond.code ⟨"DuelSamplesModel", "toldOf", "(I)I"⟩ prog_8_method_77_code 2 (Option.some Jvm.ClassFile.FieldType.int) ∈ TG := List.mem_filter.mpr ⟨List.mem_of_getElem? (i := 1153) (by decide +kernel), rfl⟩
theorem wd_1154 : Cond.methodLink "DuelSamplesLaw" 125 ⟨"DuelSamplesModel", "digest", "()J"⟩ ∈ TG := List.mem_filter.mpr ⟨List.mem_of_getElem? (i := 1154) (by decide +kernel), rfl⟩
theorem wd_1155 : Cond.instanceMethod ⟨"DuelSamplesModel", "digest", "()J"⟩ ∈ TG := List.mem_filter.mpr ⟨List.mem_of_getElem? (i := 1155) (by decide +kernel), rfl⟩
theorem wd_1156 : Cond.selects "DuelSamplesModel" ⟨"DuelSamplesModel", "digest", "()J"⟩ ⟨"DuelSamplesModel", "digest", "()J"⟩ ∈ TG := List.mem_filter.mpr ⟨List.mem_of_getElem? (i := 1156) (by decide +kernel), rfl⟩
theorem wd_1157 : Cond.code ⟨"DuelSamplesModel", "digest", "()J"⟩ prog_8_method_79_code 5 (Option.some Jvm.ClassFile.FieldType.long) ∈ TG := List.mem_filter.mpr ⟨List.mem_of_getElem? (i := 1157) (by decide +kernel), rfl⟩
theorem wd_1158 : Cond.constantLong "DuelSamplesModel" 303 (2029) ∈ TG := List.mem_filter.mpr ⟨List.mem_of_getElem? (i := 1158) (by decide +kernel), rfl⟩
theorem wd_1159 : Cond.constantLong "DuelSamplesModel" 305 (31) ∈ TG := List.mem_filter.mpr ⟨List.mem_of_getElem? (i := 1159) (by decide +kernel), rfl⟩
theorem wd_1160 : Cond.fieldLink "java/lang/String" 9 "java/lang/String" "value" "[B" ∈ TG := List.mem_filter.mpr ⟨List.mem_of_getElem? (i := 1160) (by decide +kernel), rfl⟩
theorem wd_1161 : Cond.fieldLink "java/lang/String" 15 "java/lang/String" "coder" "B" ∈ TG := List.mem_filter.mpr ⟨List.mem_of_getElem? (i := 1161) (by decide +kernel), rfl⟩
theorem in_X0 : ∀ w ∈ u_ws RX0 TX0 10, w ∈ TG := by
  have h : (u_ws RX0 TX0 10).all (fun w => goodWord w && lw_tbl.contains w) = true := by decide +kernel
  intro w hw
  have h1 := List.all_eq_true.mp h w hw
  rw [Bool.and_eq_true] at h1
  exact List.mem_filter.mpr ⟨by simpa using h1.2, h1.1⟩
theorem in_X1 : ∀ w ∈ u_ws RX1 TX1 3, w ∈ TG := by
  have h : (u_ws RX1 TX1 3).all (fun w => goodWord w && lw_tbl.contains w) = true := by decide +kernel
  intro w hw
  have h1 := List.all_eq_true.mp h w hw
  rw [Bool.and_eq_true] at h1
  exact List.mem_filter.mpr ⟨by simpa using h1.2, h1.1⟩
theorem in_X2 : ∀ w ∈ u_ws RX2 TX2 2, w ∈ TG := by
  have h : (u_ws RX2 TX2 2).all (fun w => goodWord w && lw_tbl.contains w) = true := by decide +kernel
  intro w hw
  have h1 := List.all_eq_true.mp h w hw
  rw [Bool.and_eq_true] at h1
  exact List.mem_filter.mpr ⟨by simpa using h1.2, h1.1⟩
theorem in_X3 : ∀ w ∈ u_ws RX3 TX3 3, w ∈ TG := by
  have h : (u_ws RX3 TX3 3).all (fun w => goodWord w && lw_tbl.contains w) = true := by decide +kernel
  intro w hw
  have h1 := List.all_eq_true.mp h w hw
  rw [Bool.and_eq_true] at h1
  exact List.mem_filter.mpr ⟨by simpa using h1.2, h1.1⟩
theorem in_X4 : ∀ w ∈ u_ws RX4 TX4 7, w ∈ TG := by
  have h : (u_ws RX4 TX4 7).all (fun w => goodWord w && lw_tbl.contains w) = true := by decide +kernel
  intro w hw
  have h1 := List.all_eq_true.mp h w hw
  rw [Bool.and_eq_true] at h1
  exact List.mem_filter.mpr ⟨by simpa using h1.2, h1.1⟩
theorem in_X5 : ∀ w ∈ u_ws RX5 TX5 9, w ∈ TG := by
  have h : (u_ws RX5 TX5 9).all (fun w => goodWord w && lw_tbl.contains w) = true := by decide +kernel
  intro w hw
  have h1 := List.all_eq_true.mp h w hw
  rw [Bool.and_eq_true] at h1
  exact List.mem_filter.mpr ⟨by simpa using h1.2, h1.1⟩
theorem in_X6 : ∀ w ∈ u_ws RX6 TX6 23, w ∈ TG := by
  have h : (u_ws RX6 TX6 23).all (fun w => goodWord w && lw_tbl.contains w) = true := by decide +kernel
  intro w hw
  have h1 := List.all_eq_true.mp h w hw
  rw [Bool.and_eq_true] at h1
  exact List.mem_filter.mpr ⟨by simpa using h1.2, h1.1⟩
end
section
/-! CALLS, by contract -/
theorem GoodL {l : List Cond} (h : ∀ w ∈ l, w ∈ TG) : GoodIn TG l := fun w hw => ⟨h w hw, TG_good (h w hw)⟩
/-- the receiver's cell -/
def Rc (E : EN) (h : Hp) (b : Nat) (C : String) : Prop := ∀ (s : State) (H : Heap) (locs : List Loc), St E s s.heap → va_P (eD E) classes (wl E h) H → va_S (fA E) s.heap H locs → ∃ cell : Cell, H[b]? = some cell ∧ cell.vm.isStatics = false ∧ s.vm.findClass C = some cell.cls
theorem Rc.obj {E : EN} {h : Hp} {b ci : Nat} {C : String} {T : u_T} {N : Nat} {fs : List Value} (q0 : Nat) (he : (wl E h)[q0]? = some (b, .inr (ci, fs))) (hc : classes[ci]? = some (C, T, N)) : Rc E h b C := fun s H locs hSt hP hS => va_recv hSt.1 hP hc he
theorem Rc.str {E : EN} {h : Hp} {i : Nat} (hi : i < 14) : Rc E h (eK E i) "java/lang/String" := fun s H locs hSt hP hS => vk_recv hSt.2.2.2.2.2.1 hi hS
section
variable {E : EN} {y : MethodName} {cc : ByteArray} {nL : Nat} {ret : Option FieldType} {d : Nat} {res : Option Value × Hp} {pc : Nat} {lv : List (Nat × Value)} {st st0 : List Value} {h h2 : Hp} {r : Option Value}
variable {y2 : MethodName} {cc2 : ByteArray} {nL2 d2 index b : Nat} {ret2 : Option FieldType} {As : List Value}
theorem Wa_run {p : Program} {e : Env} {s : State} {m : MethodId} {args : Array Value} {below : List Frame} {meth : Method} {c : Code} {H : Heap} {locs : List Loc} {ls : Array Slot} {a : Array Value} (X : Wx E y cc nL ret p s m args meth c H locs ls lv h)
    (hr : va_Run p (eL E) e (rmd d) s m args below meth c H locs 0 0 0 0 (F0 m pc ls st0) st (Qr E (r, h2) a) (fA E)) (k : Wa E y cc nL ret d res (pc + 3) lv (r.toList ++ st) h2) :
    W p (eL E) e (rmd d) s m args below meth c H locs 0 0 (MQ below (Qr E res) args s 0 0 (fA E)) (F0 m pc ls st0) := by
  obtain ⟨hC, hSt, hP, hS, hl⟩ := X
  intro T hT XT
  obtain ⟨v, st₀, t, T', L, h0, X', hL, e1, e2, ⟨hv, hP2, hz, hk⟩, go⟩ := hr T hT XT
  have hv : v = r := by cases hv; rfl
  subst hv
  rw [h0] at hz hk
  obtain ⟨t2, a1, b1⟩ := k p e s m args below meth c t.heap (locs ++ L) ls ⟨hC, hSt, hP2, ⟨Nat.le_trans hS.1 hz, fun q h1 h2 => by rw [hk q (Nat.lt_of_lt_of_le h1 hS.1) h2]; exact hS.2.1 q h1 h2, fun q hq => by
      rcases List.mem_append.mp hq with h | h
      · exact hS.2.2 q h
      · exact hL q h⟩, hl⟩ T' e1 X'
  exact ⟨t2, go t2 a1, b1⟩
theorem Wx.pre {p : Program} {s : State} {m : MethodId} {args : Array Value} {meth : Method} {c : Code} {H : Heap} {locs : List Loc} {ls : Array Slot} {av : List Value} (X : Wx E y cc nL ret p s m args meth c H locs ls lv h) : ∀ U : State, U.heap = H → s.WarmedH U.vm → Pr E av h av.toArray U := by
  obtain ⟨hC, hSt, hP, hS, hl⟩ := X
  intro U hU hW
  subst hU
  exact ⟨rfl, (hSt.kept hS.2.1).warm hW, hP⟩
theorem rm_ok {d d2 n : Nat} (hd : d2 < d) (hn : n ≤ 45) : (rmd d2).frames + 1 ≤ (rmd d).frames ∧ 8 + (n + 11) + (rmd d2).locals ≤ (rmd d).locals := by
  refine ⟨hd, ?_⟩
  show 8 + (n + 11) + 64 * d2 ≤ 64 * d
  omega
theorem r_callV (hM : Sem E y2 cc2 nL2 ret2 d2 (.ref b :: As) h (r, h2)) (hd : d2 < d) (hn : nL2 ≤ 45) (w1 : Cond.methodLink y.cls index y2 ∈ TG) (w2 : Cond.instanceMethod y2 ∈ TG) (w3 : Cond.selects y2.cls y2 y2 ∈ TG) (w4 : Cond.initialized y2.cls ∈ TG) (w5 : Cond.code y2 cc2 nL2 ret2 ∈ TG)
    (hy : y2.cls ≠ "java/lang/invoke/MethodHandle" ∧ y2.cls ≠ "java/lang/invoke/VarHandle" ∧ (parseMethodDescriptor y2.desc).map (fun d => d.parameters.length) = some As.length) (hrc : Rc E h b y2.cls) (hst : st0 = As.reverse ++ .ref b :: st) (hcat : (st.map fun v => v.category).sum ≤ 8) (hdg : decode cc pc = .ok (.invokevirtual index, 3))
    (k : Wa E y cc nL ret d res (pc + 3) lv (r.toList ++ st) h2) : Wa E y cc nL ret d res pc lv st0 h := by
  intro p e s m args below meth c H locs ls X
  obtain ⟨⟨hx, hb, hr, hml, hown, hts, hlk⟩, hSt, hP, hS, hl⟩ := id X
  subst hst
  have hG : GoodIn TG (wsV y.cls index y2.cls y2 (wsM y2 cc2 nL2 ret2)) := GoodL (fun w hw => by
    rcases List.mem_append.mp hw with hw | hw
    · simp only [List.mem_cons, List.not_mem_nil, or_false] at hw
      rcases hw with rfl | rfl | rfl | rfl
      · exact w1
      · exact w2
      · exact w3
      · exact w4
    · rcases List.mem_cons.mp hw with rfl | hw
      · exact w5
      · exact hw)
  exact Wa_run X (va_runV (As := As) (rest := st) ⟨hx, hb, hml, hown, hts⟩ hM (cwV As.length hts hG rfl rfl rfl ⟨rfl, hy⟩ (rm_ok hd hn)) ⟨Pr_blind E _ h, hrc s H locs hSt hP hS, X.pre⟩ rfl rfl hl.1 rfl (lv_room hcat) hdg ⟨Nat.le_refl _, Nat.le_refl _⟩) k
theorem r_callS (hM : Sem E y2 cc2 nL2 ret2 d2 As h (r, h2)) (hd : d2 < d) (hn : nL2 ≤ 45) (w1 : Cond.methodLink y.cls index y2 ∈ TG) (w2 : Cond.static y2 ∈ TG) (w4 : Cond.initialized y2.cls ∈ TG) (w5 : Cond.code y2 cc2 nL2 ret2 ∈ TG)
    (hy : y2.cls ≠ "java/lang/invoke/MethodHandle" ∧ y2.cls ≠ "java/lang/invoke/VarHandle" ∧ (parseMethodDescriptor y2.desc).map (fun d => d.parameters.length) = some As.length) (hst : st0 = As.reverse ++ st) (hcat : (st.map fun v => v.category).sum ≤ 8) (hdg : decode cc pc = .ok (.invokestatic index, 3))
    (k : Wa E y cc nL ret d res (pc + 3) lv (r.toList ++ st) h2) : Wa E y cc nL ret d res pc lv st0 h := by
  intro p e s m args below meth c H locs ls X
  obtain ⟨⟨hx, hb, hr, hml, hown, hts, hlk⟩, hSt, hP, hS, hl⟩ := id X
  subst hst
  have hG : GoodIn TG (va_wsS y.cls index y2 (wsM y2 cc2 nL2 ret2)) := GoodL (fun w hw => by
    rcases List.mem_append.mp hw with hw | hw
    · simp only [List.mem_cons, List.not_mem_nil, or_false] at hw
      rcases hw with rfl | rfl | rfl
      · exact w1
      · exact w2
      · exact w4
    · rcases List.mem_cons.mp hw with rfl | hw
      · exact w5
      · exact hw)
  exact Wa_run X (va_runS (As := As) (rest := st) ⟨hx, hb, hml, hown, hts⟩ hM (va_cwS As.length hts hG rfl rfl rfl hy (rm_ok hd hn)) ⟨Pr_blind E _ h, X.pre⟩ rfl rfl hl.1 rfl (lv_room hcat) hdg ⟨Nat.le_refl _, Nat.le_refl _⟩) k
theorem r_callSN {host : String} (hM : Sem E y2 cc2 nL2 ret2 d2 As h (r, h2)) (hd : d2 < d) (hn : nL2 ≤ 45) (w1 : Cond.methodLinkNest y.cls index y2 host ∈ NW) (w2 : Cond.static y2 ∈ TG) (w4 : Cond.initialized y2.cls ∈ TG) (w5 : Cond.code y2 cc2 nL2 ret2 ∈ TG)
    (hy : y2.cls ≠ "java/lang/invoke/MethodHandle" ∧ y2.cls ≠ "java/lang/invoke/VarHandle" ∧ (parseMethodDescriptor y2.desc).map (fun d => d.parameters.length) = some As.length) (hst : st0 = As.reverse ++ st) (hcat : (st.map fun v => v.category).sum ≤ 8) (hdg : decode cc pc = .ok (.invokestatic index, 3))
    (k : Wa E y cc nL ret d res (pc + 3) lv (r.toList ++ st) h2) : Wa E y cc nL ret d res pc lv st0 h := by
  intro p e s m args below meth c H locs ls X
  obtain ⟨⟨hx, hb, hr, hml, hown, hts, hlk⟩, hSt, hP, hS, hl⟩ := id X
  subst hst
  have hG : GoodIn TG (wsM y2 cc2 nL2 ret2) := GoodL (fun w hw => by
    rcases List.mem_cons.mp hw with rfl | hw
    · exact w5
    · exact hw)
  exact Wa_run X (va_runSN (As := As) (rest := st) ⟨hx, hb, hml, hown, hts⟩ hM ⟨va_cnB As.length hts hG rfl rfl rfl (hSt.2.2.1 _ w1) (hts _ w4) hy (rm_ok hd hn), hts _ w2, trivial⟩ ⟨Pr_blind E _ h, X.pre⟩ rfl rfl hl.1 rfl (lv_room hcat) hdg ⟨Nat.le_refl _, Nat.le_refl _⟩) k
theorem r_mmax {a b : Int32} (w1 : Cond.methodLink y.cls index Lib.Math.max.name ∈ TG) (w2 : Cond.static Lib.Math.max.name ∈ TG) (w4 : Cond.initialized "java/lang/Math" ∈ TG) (w5 : Cond.code Lib.Math.max.name Lib.Math.max.code 2 (some .int) ∈ TG) (hd : 0 < d) (hcat : (st.map fun v => v.category).sum ≤ 8) (hdg : decode cc pc = .ok (.invokestatic index, 3))
    (k : Wa E y cc nL ret d res (pc + 3) lv (.int (if a < b then b else a) :: st) h) : Wa E y cc nL ret d res pc lv (.int b :: .int a :: st) h := by
  intro p e s m args below meth c H locs ls X
  obtain ⟨⟨hx, hb, hr, hml, hown, hts, hlk⟩, hSt, hP, hS, hl⟩ := id X
  exact va_mmax (R := rmd d) hx hb (hml.trans hl.1.symm) hown (hts _ w1) (hts _ w2) (hts _ w4) (hts _ w5) hd (by show _ + _ ≤ 64 * d; omega) (Nat.zero_le _) (Nat.zero_le _) hdg (k p e s m args below meth c H locs ls X)
theorem r_mmin {a b : Int32} (w1 : Cond.methodLink y.cls index Lib.Math.min.name ∈ TG) (w2 : Cond.static Lib.Math.min.name ∈ TG) (w4 : Cond.initialized "java/lang/Math" ∈ TG) (w5 : Cond.code Lib.Math.min.name Lib.Math.min.code 2 (some .int) ∈ TG) (hd : 0 < d) (hcat : (st.map fun v => v.category).sum ≤ 8) (hdg : decode cc pc = .ok (.invokestatic index, 3))
    (k : Wa E y cc nL ret d res (pc + 3) lv (.int (if b < a then b else a) :: st) h) : Wa E y cc nL ret d res pc lv (.int b :: .int a :: st) h := by
  intro p e s m args below meth c H locs ls X
  obtain ⟨⟨hx, hb, hr, hml, hown, hts, hlk⟩, hSt, hP, hS, hl⟩ := id X
  exact va_mmin (R := rmd d) hx hb (hml.trans hl.1.symm) hown (hts _ w1) (hts _ w2) (hts _ w4) (hts _ w5) hd (by show _ + _ ≤ 64 * d; omega) (Nat.zero_le _) (Nat.zero_le _) hdg (k p e s m args below meth c H locs ls X)
theorem r_mabs {a : Int32} (w1 : Cond.methodLink y.cls index Lib.Math.abs.name ∈ TG) (w2 : Cond.static Lib.Math.abs.name ∈ TG) (w4 : Cond.initialized "java/lang/Math" ∈ TG) (w5 : Cond.code Lib.Math.abs.name Lib.Math.abs.code 1 (some .int) ∈ TG) (hd : 0 < d) (hcat : (st.map fun v => v.category).sum ≤ 8) (hdg : decode cc pc = .ok (.invokestatic index, 3))
    (k : Wa E y cc nL ret d res (pc + 3) lv (.int (if 0 ≤ a then a else 0 - a) :: st) h) : Wa E y cc nL ret d res pc lv (.int a :: st) h := by
  intro p e s m args below meth c H locs ls X
  obtain ⟨⟨hx, hb, hr, hml, hown, hts, hlk⟩, hSt, hP, hS, hl⟩ := id X
  exact va_mabs (R := rmd d) hx hb (hml.trans hl.1.symm) hown (hts _ w1) (hts _ w2) (hts _ w4) (hts _ w5) hd (by show _ + _ ≤ 64 * d; omega) (Nat.zero_le _) (Nat.zero_le _) hdg (k p e s m args below meth c H locs ls X)
theorem r_mmin_long {a b : Int64} (w1 : Cond.methodLink y.cls index Lib.MathLoose.min_long.x ∈ TG) (w2 : Cond.static Lib.MathLoose.min_long.x ∈ TG) (w4 : Cond.initialized "java/lang/Math" ∈ TG) (w5 : Cond.code Lib.MathLoose.min_long.x Lib.MathLoose.min_long.code 4 (some .long) ∈ TG) (hd : 0 < d) (hcat : (st.map fun v => v.category).sum ≤ 8) (hdg : decode cc pc = .ok (.invokestatic index, 3))
    (k : Wa E y cc nL ret d res (pc + 3) lv (.long (if b < a then b else a) :: st) h) : Wa E y cc nL ret d res pc lv (.long b :: .long a :: st) h := by
  intro p e s m args below meth c H locs ls X
  obtain ⟨⟨hx, hb, hr, hml, hown, hts, hlk⟩, hSt, hP, hS, hl⟩ := id X
  exact va_mmin_long (R := rmd d) hx hb (hml.trans hl.1.symm) hown (hts _ w1) (hts _ w2) (hts _ w4) (hts _ w5) hd (by show _ + _ ≤ 64 * d; omega) (Nat.zero_le _) (Nat.zero_le _) hdg (k p e s m args below meth c H locs ls X)
theorem r_mabs_long {a : Int64} (w1 : Cond.methodLink y.cls index Lib.MathLoose.abs_long.x ∈ TG) (w2 : Cond.static Lib.MathLoose.abs_long.x ∈ TG) (w4 : Cond.initialized "java/lang/Math" ∈ TG) (w5 : Cond.code Lib.MathLoose.abs_long.x Lib.MathLoose.abs_long.code 2 (some .long) ∈ TG) (hd : 0 < d) (hcat : (st.map fun v => v.category).sum ≤ 8) (hdg : decode cc pc = .ok (.invokestatic index, 3))
    (k : Wa E y cc nL ret d res (pc + 3) lv (.long (if 0 < a then a else -a) :: st) h) : Wa E y cc nL ret d res pc lv (.long a :: st) h := by
  intro p e s m args below meth c H locs ls X
  obtain ⟨⟨hx, hb, hr, hml, hown, hts, hlk⟩, hSt, hP, hS, hl⟩ := id X
  exact va_mabs_long (R := rmd d) hx hb (hml.trans hl.1.symm) hown (hts _ w1) (hts _ w2) (hts _ w4) (hts _ w5) hd (by show _ + _ ≤ 64 * d; omega) (Nat.zero_le _) (Nat.zero_le _) hdg (k p e s m args below meth c H locs ls X)
end
end
section
section
variable {E : EN} {y : MethodName} {cc : ByteArray} {nL : Nat} {ret : Option FieldType} {d : Nat} {res : Option Value × Hp} {pc : Nat} {lv : List (Nat × Value)} {st st0 : List Value} {h h2 : Hp}
variable {y2 : MethodName} {cc2 : ByteArray} {nL2 d2 index b : Nat} {ret2 : Option FieldType} {As : List Value}
theorem r_callVi {x : Int32} (hM : Sem E y2 cc2 nL2 ret2 d2 (.ref b :: As) h (some (.int x), h2)) (hd : d2 < d) (hn : nL2 ≤ 45) (w1 : Cond.methodLink y.cls index y2 ∈ TG) (w2 : Cond.instanceMethod y2 ∈ TG) (w3 : Cond.selects y2.cls y2 y2 ∈ TG) (w4 : Cond.initialized y2.cls ∈ TG) (w5 : Cond.code y2 cc2 nL2 ret2 ∈ TG) (hy : y2.cls ≠ "java/lang/invoke/MethodHandle" ∧ y2.cls ≠ "java/lang/invoke/VarHandle" ∧ (parseMethodDescriptor y2.desc).map (fun d => d.parameters.length) = some As.length) (hrc : Rc E h b y2.cls) (hst : st0 = As.reverse ++ .ref b :: st) (hcat : (st.map fun v => v.category).sum ≤ 8) (hdg : decode cc pc = .ok (.invokevirtual index, 3)) (k : Wa E y cc nL ret d res (pc + 3) lv (.int x :: st) h2) : Wa E y cc nL ret d res pc lv st0 h := r_callV hM hd hn w1 w2 w3 w4 w5 hy hrc hst hcat hdg k
theorem r_callSi {x : Int32} (hM : Sem E y2 cc2 nL2 ret2 d2 As h (some (.int x), h2)) (hd : d2 < d) (hn : nL2 ≤ 45) (w1 : Cond.methodLink y.cls index y2 ∈ TG) (w2 : Cond.static y2 ∈ TG) (w4 : Cond.initialized y2.cls ∈ TG) (w5 : Cond.code y2 cc2 nL2 ret2 ∈ TG) (hy : y2.cls ≠ "java/lang/invoke/MethodHandle" ∧ y2.cls ≠ "java/lang/invoke/VarHandle" ∧ (parseMethodDescriptor y2.desc).map (fun d => d.parameters.length) = some As.length) (hst : st0 = As.reverse ++ st) (hcat : (st.map fun v => v.category).sum ≤ 8) (hdg : decode cc pc = .ok (.invokestatic index, 3)) (k : Wa E y cc nL ret d res (pc + 3) lv (.int x :: st) h2) : Wa E y cc nL ret d res pc lv st0 h := r_callS hM hd hn w1 w2 w4 w5 hy hst hcat hdg k
theorem r_callSNi {host : String} {x : Int32} (hM : Sem E y2 cc2 nL2 ret2 d2 As h (some (.int x), h2)) (hd : d2 < d) (hn : nL2 ≤ 45) (w1 : Cond.methodLinkNest y.cls index y2 host ∈ NW) (w2 : Cond.static y2 ∈ TG) (w4 : Cond.initialized y2.cls ∈ TG) (w5 : Cond.code y2 cc2 nL2 ret2 ∈ TG) (hy : y2.cls ≠ "java/lang/invoke/MethodHandle" ∧ y2.cls ≠ "java/lang/invoke/VarHandle" ∧ (parseMethodDescriptor y2.desc).map (fun d => d.parameters.length) = some As.length) (hst : st0 = As.reverse ++ st) (hcat : (st.map fun v => v.category).sum ≤ 8) (hdg : decode cc pc = .ok (.invokestatic index, 3)) (k : Wa E y cc nL ret d res (pc + 3) lv (.int x :: st) h2) : Wa E y cc nL ret d res pc lv st0 h := r_callSN hM hd hn w1 w2 w4 w5 hy hst hcat hdg k
theorem r_callVl {x : Int64} (hM : Sem E y2 cc2 nL2 ret2 d2 (.ref b :: As) h (some (.long x), h2)) (hd : d2 < d) (hn : nL2 ≤ 45) (w1 : Cond.methodLink y.cls index y2 ∈ TG) (w2 : Cond.instanceMethod y2 ∈ TG) (w3 : Cond.selects y2.cls y2 y2 ∈ TG) (w4 : Cond.initialized y2.cls ∈ TG) (w5 : Cond.code y2 cc2 nL2 ret2 ∈ TG) (hy : y2.cls ≠ "java/lang/invoke/MethodHandle" ∧ y2.cls ≠ "java/lang/invoke/VarHandle" ∧ (parseMethodDescriptor y2.desc).map (fun d => d.parameters.length) = some As.length) (hrc : Rc E h b y2.cls) (hst : st0 = As.reverse ++ .ref b :: st) (hcat : (st.map fun v => v.category).sum ≤ 8) (hdg : decode cc pc = .ok (.invokevirtual index, 3)) (k : Wa E y cc nL ret d res (pc + 3) lv (.long x :: st) h2) : Wa E y cc nL ret d res pc lv st0 h := r_callV hM hd hn w1 w2 w3 w4 w5 hy hrc hst hcat hdg k
theorem r_callSl {x : Int64} (hM : Sem E y2 cc2 nL2 ret2 d2 As h (some (.long x), h2)) (hd : d2 < d) (hn : nL2 ≤ 45) (w1 : Cond.methodLink y.cls index y2 ∈ TG) (w2 : Cond.static y2 ∈ TG) (w4 : Cond.initialized y2.cls ∈ TG) (w5 : Cond.code y2 cc2 nL2 ret2 ∈ TG) (hy : y2.cls ≠ "java/lang/invoke/MethodHandle" ∧ y2.cls ≠ "java/lang/invoke/VarHandle" ∧ (parseMethodDescriptor y2.desc).map (fun d => d.parameters.length) = some As.length) (hst : st0 = As.reverse ++ st) (hcat : (st.map fun v => v.category).sum ≤ 8) (hdg : decode cc pc = .ok (.invokestatic index, 3)) (k : Wa E y cc nL ret d res (pc + 3) lv (.long x :: st) h2) : Wa E y cc nL ret d res pc lv st0 h := r_callS hM hd hn w1 w2 w4 w5 hy hst hcat hdg k
theorem r_callSNl {host : String} {x : Int64} (hM : Sem E y2 cc2 nL2 ret2 d2 As h (some (.long x), h2)) (hd : d2 < d) (hn : nL2 ≤ 45) (w1 : Cond.methodLinkNest y.cls index y2 host ∈ NW) (w2 : Cond.static y2 ∈ TG) (w4 : Cond.initialized y2.cls ∈ TG) (w5 : Cond.code y2 cc2 nL2 ret2 ∈ TG) (hy : y2.cls ≠ "java/lang/invoke/MethodHandle" ∧ y2.cls ≠ "java/lang/invoke/VarHandle" ∧ (parseMethodDescriptor y2.desc).map (fun d => d.parameters.length) = some As.length) (hst : st0 = As.reverse ++ st) (hcat : (st.map fun v => v.category).sum ≤ 8) (hdg : decode cc pc = .ok (.invokestatic index, 3)) (k : Wa E y cc nL ret d res (pc + 3) lv (.long x :: st) h2) : Wa E y cc nL ret d res pc lv st0 h := r_callSN hM hd hn w1 w2 w4 w5 hy hst hcat hdg k
theorem r_callVv  (hM : Sem E y2 cc2 nL2 ret2 d2 (.ref b :: As) h (none, h2)) (hd : d2 < d) (hn : nL2 ≤ 45) (w1 : Cond.methodLink y.cls index y2 ∈ TG) (w2 : Cond.instanceMethod y2 ∈ TG) (w3 : Cond.selects y2.cls y2 y2 ∈ TG) (w4 : Cond.initialized y2.cls ∈ TG) (w5 : Cond.code y2 cc2 nL2 ret2 ∈ TG) (hy : y2.cls ≠ "java/lang/invoke/MethodHandle" ∧ y2.cls ≠ "java/lang/invoke/VarHandle" ∧ (parseMethodDescriptor y2.desc).map (fun d => d.parameters.length) = some As.length) (hrc : Rc E h b y2.cls) (hst : st0 = As.reverse ++ .ref b :: st) (hcat : (st.map fun v => v.category).sum ≤ 8) (hdg : decode cc pc = .ok (.invokevirtual index, 3)) (k : Wa E y cc nL ret d res (pc + 3) lv (st) h2) : Wa E y cc nL ret d res pc lv st0 h := r_callV hM hd hn w1 w2 w3 w4 w5 hy hrc hst hcat hdg k
theorem r_callSv  (hM : Sem E y2 cc2 nL2 ret2 d2 As h (none, h2)) (hd : d2 < d) (hn : nL2 ≤ 45) (w1 : Cond.methodLink y.cls index y2 ∈ TG) (w2 : Cond.static y2 ∈ TG) (w4 : Cond.initialized y2.cls ∈ TG) (w5 : Cond.code y2 cc2 nL2 ret2 ∈ TG) (hy : y2.cls ≠ "java/lang/invoke/MethodHandle" ∧ y2.cls ≠ "java/lang/invoke/VarHandle" ∧ (parseMethodDescriptor y2.desc).map (fun d => d.parameters.length) = some As.length) (hst : st0 = As.reverse ++ st) (hcat : (st.map fun v => v.category).sum ≤ 8) (hdg : decode cc pc = .ok (.invokestatic index, 3)) (k : Wa E y cc nL ret d res (pc + 3) lv (st) h2) : Wa E y cc nL ret d res pc lv st0 h := r_callS hM hd hn w1 w2 w4 w5 hy hst hcat hdg k
theorem r_callSNv {host : String}  (hM : Sem E y2 cc2 nL2 ret2 d2 As h (none, h2)) (hd : d2 < d) (hn : nL2 ≤ 45) (w1 : Cond.methodLinkNest y.cls index y2 host ∈ NW) (w2 : Cond.static y2 ∈ TG) (w4 : Cond.initialized y2.cls ∈ TG) (w5 : Cond.code y2 cc2 nL2 ret2 ∈ TG) (hy : y2.cls ≠ "java/lang/invoke/MethodHandle" ∧ y2.cls ≠ "java/lang/invoke/VarHandle" ∧ (parseMethodDescriptor y2.desc).map (fun d => d.parameters.length) = some As.length) (hst : st0 = As.reverse ++ st) (hcat : (st.map fun v => v.category).sum ≤ 8) (hdg : decode cc pc = .ok (.invokestatic index, 3)) (k : Wa E y cc nL ret d res (pc + 3) lv (st) h2) : Wa E y cc nL ret d res pc lv st0 h := r_callSN hM hd hn w1 w2 w4 w5 hy hst hcat hdg k
theorem r_callVa {x : Nat} (hM : Sem E y2 cc2 nL2 ret2 d2 (.ref b :: As) h (some (.ref x), h2)) (hd : d2 < d) (hn : nL2 ≤ 45) (w1 : Cond.methodLink y.cls index y2 ∈ TG) (w2 : Cond.instanceMethod y2 ∈ TG) (w3 : Cond.selects y2.cls y2 y2 ∈ TG) (w4 : Cond.initialized y2.cls ∈ TG) (w5 : Cond.code y2 cc2 nL2 ret2 ∈ TG) (hy : y2.cls ≠ "java/lang/invoke/MethodHandle" ∧ y2.cls ≠ "java/lang/invoke/VarHandle" ∧ (parseMethodDescriptor y2.desc).map (fun d => d.parameters.length) = some As.length) (hrc : Rc E h b y2.cls) (hst : st0 = As.reverse ++ .ref b :: st) (hcat : (st.map fun v => v.category).sum ≤ 8) (hdg : decode cc pc = .ok (.invokevirtual index, 3)) (k : Wa E y cc nL ret d res (pc + 3) lv (.ref x :: st) h2) : Wa E y cc nL ret d res pc lv st0 h := r_callV hM hd hn w1 w2 w3 w4 w5 hy hrc hst hcat hdg k
theorem r_callSa {x : Nat} (hM : Sem E y2 cc2 nL2 ret2 d2 As h (some (.ref x), h2)) (hd : d2 < d) (hn : nL2 ≤ 45) (w1 : Cond.methodLink y.cls index y2 ∈ TG) (w2 : Cond.static y2 ∈ TG) (w4 : Cond.initialized y2.cls ∈ TG) (w5 : Cond.code y2 cc2 nL2 ret2 ∈ TG) (hy : y2.cls ≠ "java/lang/invoke/MethodHandle" ∧ y2.cls ≠ "java/lang/invoke/VarHandle" ∧ (parseMethodDescriptor y2.desc).map (fun d => d.parameters.length) = some As.length) (hst : st0 = As.reverse ++ st) (hcat : (st.map fun v => v.category).sum ≤ 8) (hdg : decode cc pc = .ok (.invokestatic index, 3)) (k : Wa E y cc nL ret d res (pc + 3) lv (.ref x :: st) h2) : Wa E y cc nL ret d res pc lv st0 h := r_callS hM hd hn w1 w2 w4 w5 hy hst hcat hdg k
theorem r_callSNa {host : String} {x : Nat} (hM : Sem E y2 cc2 nL2 ret2 d2 As h (some (.ref x), h2)) (hd : d2 < d) (hn : nL2 ≤ 45) (w1 : Cond.methodLinkNest y.cls index y2 host ∈ NW) (w2 : Cond.static y2 ∈ TG) (w4 : Cond.initialized y2.cls ∈ TG) (w5 : Cond.code y2 cc2 nL2 ret2 ∈ TG) (hy : y2.cls ≠ "java/lang/invoke/MethodHandle" ∧ y2.cls ≠ "java/lang/invoke/VarHandle" ∧ (parseMethodDescriptor y2.desc).map (fun d => d.parameters.length) = some As.length) (hst : st0 = As.reverse ++ st) (hcat : (st.map fun v => v.category).sum ≤ 8) (hdg : decode cc pc = .ok (.invokestatic index, 3)) (k : Wa E y cc nL ret d res (pc + 3) lv (.ref x :: st) h2) : Wa E y cc nL ret d res pc lv st0 h := r_callSN hM hd hn w1 w2 w4 w5 hy hst hcat hdg k
theorem r_tswi {dflt lo hi : Int} {offs : Array Int} {len : Nat} {x k9 : Int32} {off : Int} {tgt : Nat} (hdg : decode cc pc = .ok (.tableswitch dflt lo hi offs, len)) (hk : x = k9) (h1 : ¬ k9.toInt < lo) (h2 : ¬ hi < k9.toInt) (ho : offs[(k9.toInt - lo).toNat]? = some off) (ht : (pc : Int) + off = (tgt : Int)) (k : Wa E y cc nL ret d res tgt lv st h) : Wa E y cc nL ret d res pc lv (.int x :: st) h := by
  subst hk
  intro p e s m args below meth c H locs ls X
  obtain ⟨⟨hx, hb, hr, hml, hown, hts, hlk⟩, hSt, hP, hS, hl⟩ := id X
  exact lv_tableIn hx hb hdg h1 h2 ho ht (k p e s m args below meth c H locs ls X)
theorem r_tswo {dflt lo hi : Int} {offs : Array Int} {len : Nat} {x : Int32} {tgt : Nat} (hdg : decode cc pc = .ok (.tableswitch dflt lo hi offs, len)) (ho : x.toInt < lo ∨ hi < x.toInt) (ht : (pc : Int) + dflt = (tgt : Int)) (k : Wa E y cc nL ret d res tgt lv st h) : Wa E y cc nL ret d res pc lv (.int x :: st) h := by
  intro p e s m args below meth c H locs ls X
  obtain ⟨⟨hx, hb, hr, hml, hown, hts, hlk⟩, hSt, hP, hS, hl⟩ := id X
  exact lv_tableOut hx hb hdg ho ht (k p e s m args below meth c H locs ls X)
end
theorem tsw_ne {x : Int32} {k : Int32} {n : Int} (h : ¬ x = k) (hk : k.toInt = n) : ¬ x.toInt = n := fun q => h (Int32.toInt_inj.mp (by rw [hk]; exact q))
theorem pfI : parseFieldDescriptor "I" = some .int := by decide +kernel
theorem narB {x : Int32} (h : x = 0 ∨ x = 1) : narrow .boolean (.int x) = .int x := by
  rcases h with rfl | rfl <;> rfl
def FU : Nat := 5000
theorem tsw_out0_2 {x : Int32} (h0 : ¬ x = 0) (h1 : ¬ x = 1) (h2 : ¬ x = 2) : x.toInt < 0 ∨ 2 < x.toInt := by
  have g0 := tsw_ne (n := 0) h0 (by decide)
  have g1 := tsw_ne (n := 1) h1 (by decide)
  have g2 := tsw_ne (n := 2) h2 (by decide)
  omega
theorem tsw_out1_4 {x : Int32} (h1 : ¬ x = 1) (h2 : ¬ x = 2) (h3 : ¬ x = 3) (h4 : ¬ x = 4) : x.toInt < 1 ∨ 4 < x.toInt := by
  have g1 := tsw_ne (n := 1) h1 (by decide)
  have g2 := tsw_ne (n := 2) h2 (by decide)
  have g3 := tsw_ne (n := 3) h3 (by decide)
  have g4 := tsw_ne (n := 4) h4 (by decide)
  omega
theorem tsw_out0_12 {x : Int32} (h0 : ¬ x = 0) (h1 : ¬ x = 1) (h2 : ¬ x = 2) (h3 : ¬ x = 3) (h4 : ¬ x = 4) (h5 : ¬ x = 5) (h6 : ¬ x = 6) (h7 : ¬ x = 7) (h8 : ¬ x = 8) (h9 : ¬ x = 9) (h10 : ¬ x = 10) (h11 : ¬ x = 11) (h12 : ¬ x = 12) : x.toInt < 0 ∨ 12 < x.toInt := by
  have g0 := tsw_ne (n := 0) h0 (by decide)
  have g1 := tsw_ne (n := 1) h1 (by decide)
  have g2 := tsw_ne (n := 2) h2 (by decide)
  have g3 := tsw_ne (n := 3) h3 (by decide)
  have g4 := tsw_ne (n := 4) h4 (by decide)
  have g5 := tsw_ne (n := 5) h5 (by decide)
  have g6 := tsw_ne (n := 6) h6 (by decide)
  have g7 := tsw_ne (n := 7) h7 (by decide)
  have g8 := tsw_ne (n := 8) h8 (by decide)
  have g9 := tsw_ne (n := 9) h9 (by decide)
  have g10 := tsw_ne (n := 10) h10 (by decide)
  have g11 := tsw_ne (n := 11) h11 (by decide)
  have g12 := tsw_ne (n := 12) h12 (by decide)
  omega
theorem tsw_out0_3 {x : Int32} (h0 : ¬ x = 0) (h1 : ¬ x = 1) (h2 : ¬ x = 2) (h3 : ¬ x = 3) : x.toInt < 0 ∨ 3 < x.toInt := by
  have g0 := tsw_ne (n := 0) h0 (by decide)
  have g1 := tsw_ne (n := 1) h1 (by decide)
  have g2 := tsw_ne (n := 2) h2 (by decide)
  have g3 := tsw_ne (n := 3) h3 (by decide)
  omega
theorem tsw_out0_5 {x : Int32} (h0 : ¬ x = 0) (h1 : ¬ x = 1) (h2 : ¬ x = 2) (h3 : ¬ x = 3) (h4 : ¬ x = 4) (h5 : ¬ x = 5) : x.toInt < 0 ∨ 5 < x.toInt := by
  have g0 := tsw_ne (n := 0) h0 (by decide)
  have g1 := tsw_ne (n := 1) h1 (by decide)
  have g2 := tsw_ne (n := 2) h2 (by decide)
  have g3 := tsw_ne (n := 3) h3 (by decide)
  have g4 := tsw_ne (n := 4) h4 (by decide)
  have g5 := tsw_ne (n := 5) h5 (by decide)
  omega
theorem tsw_out0_11 {x : Int32} (h0 : ¬ x = 0) (h1 : ¬ x = 1) (h2 : ¬ x = 2) (h3 : ¬ x = 3) (h4 : ¬ x = 4) (h5 : ¬ x = 5) (h6 : ¬ x = 6) (h7 : ¬ x = 7) (h8 : ¬ x = 8) (h9 : ¬ x = 9) (h10 : ¬ x = 10) (h11 : ¬ x = 11) : x.toInt < 0 ∨ 11 < x.toInt := by
  have g0 := tsw_ne (n := 0) h0 (by decide)
  have g1 := tsw_ne (n := 1) h1 (by decide)
  have g2 := tsw_ne (n := 2) h2 (by decide)
  have g3 := tsw_ne (n := 3) h3 (by decide)
  have g4 := tsw_ne (n := 4) h4 (by decide)
  have g5 := tsw_ne (n := 5) h5 (by decide)
  have g6 := tsw_ne (n := 6) h6 (by decide)
  have g7 := tsw_ne (n := 7) h7 (by decide)
  have g8 := tsw_ne (n := 8) h8 (by decide)
  have g9 := tsw_ne (n := 9) h9 (by decide)
  have g10 := tsw_ne (n := 10) h10 (by decide)
  have g11 := tsw_ne (n := 11) h11 (by decide)
  omega
theorem tsw_out0_25 {x : Int32} (h0 : ¬ x = 0) (h1 : ¬ x = 1) (h2 : ¬ x = 2) (h3 : ¬ x = 3) (h4 : ¬ x = 4) (h5 : ¬ x = 5) (h6 : ¬ x = 6) (h7 : ¬ x = 7) (h8 : ¬ x = 8) (h9 : ¬ x = 9) (h10 : ¬ x = 10) (h11 : ¬ x = 11) (h12 : ¬ x = 12) (h13 : ¬ x = 13) (h14 : ¬ x = 14) (h15 : ¬ x = 15) (h16 : ¬ x = 16) (h17 : ¬ x = 17) (h18 : ¬ x = 18) (h19 : ¬ x = 19) (h20 : ¬ x = 20) (h21 : ¬ x = 21) (h22 : ¬ x = 22) (h23 : ¬ x = 23) (h24 : ¬ x = 24) (h25 : ¬ x = 25) : x.toInt < 0 ∨ 25 < x.toInt := by
  have g0 := tsw_ne (n := 0) h0 (by decide)
  have g1 := tsw_ne (n := 1) h1 (by decide)
  have g2 := tsw_ne (n := 2) h2 (by decide)
  have g3 := tsw_ne (n := 3) h3 (by decide)
  have g4 := tsw_ne (n := 4) h4 (by decide)
  have g5 := tsw_ne (n := 5) h5 (by decide)
  have g6 := tsw_ne (n := 6) h6 (by decide)
  have g7 := tsw_ne (n := 7) h7 (by decide)
  have g8 := tsw_ne (n := 8) h8 (by decide)
  have g9 := tsw_ne (n := 9) h9 (by decide)
  have g10 := tsw_ne (n := 10) h10 (by decide)
  have g11 := tsw_ne (n := 11) h11 (by decide)
  have g12 := tsw_ne (n := 12) h12 (by decide)
  have g13 := tsw_ne (n := 13) h13 (by decide)
  have g14 := tsw_ne (n := 14) h14 (by decide)
  have g15 := tsw_ne (n := 15) h15 (by decide)
  have g16 := tsw_ne (n := 16) h16 (by decide)
  have g17 := tsw_ne (n := 17) h17 (by decide)
  have g18 := tsw_ne (n := 18) h18 (by decide)
  have g19 := tsw_ne (n := 19) h19 (by decide)
  have g20 := tsw_ne (n := 20) h20 (by decide)
  have g21 := tsw_ne (n := 21) h21 (by decide)
  have g22 := tsw_ne (n := 22) h22 (by decide)
  have g23 := tsw_ne (n := 23) h23 (by decide)
  have g24 := tsw_ne (n := 24) h24 (by decide)
  have g25 := tsw_ne (n := 25) h25 (by decide)
  omega
end
section
section
variable {E : EN} {y : MethodName} {cc : ByteArray} {nL : Nat} {ret : Option FieldType} {d : Nat} {res : Option Value × Hp} {pc : Nat} {lv : List (Nat × Value)} {st : List Value} {h : Hp}
theorem r_cstr {index : Nat} (hlink : Cond.fieldLink y.cls index "java/lang/String" "COMPACT_STRINGS" "Z" ∈ TG) (hdg : decode cc pc = .ok (.getstatic index, 3)) (k : Wa E y cc nL ret d res (pc + 3) lv (.int 1 :: st) h) : Wa E y cc nL ret d res pc lv st h := by
  intro p e s m args below meth c H locs ls X
  obtain ⟨⟨hx, hb, hr, hml, hown, hts, hlk⟩, hSt, hP, hS, hl⟩ := id X
  exact va_gets hx hb hSt.2.2.2.2.2.2.2.1 hS hown (hts _ hlink) (fun x q => q) hdg (k p e s m args below meth c H locs ls X)
theorem r_sio {index : Nat} (hlink : Cond.fieldLink y.cls index "jdk/internal/util/Preconditions" "SIOOBE_FORMATTER" "Ljava/util/function/BiFunction;" ∈ TG) (hdg : decode cc pc = .ok (.getstatic index, 3)) (k1 : Wa E y cc nL ret d res (pc + 3) lv (.null :: st) h) (k2 : ∀ t : Nat, Wa E y cc nL ret d res (pc + 3) lv (.ref t :: st) h) : Wa E y cc nL ret d res pc lv st h := by
  intro p e s m args below meth c H locs ls X
  obtain ⟨⟨hx, hb, hr, hml, hown, hts, hlk⟩, hSt, hP, hS, hl⟩ := id X
  rcases hSt.2.2.2.2.2.2.2.2 with hz | ⟨t, hz⟩
  · exact va_gets hx hb hz hS hown (hts _ hlink) (fun x q => q) hdg (k1 p e s m args below meth c H locs ls X)
  · exact va_gets hx hb hz hS hown (hts _ hlink) (fun x q => q) hdg (k2 t p e s m args below meth c H locs ls X)
theorem r_scoder {index w : Nat} (hi : w < 14) (hlink : Cond.fieldLink y.cls index "java/lang/String" "coder" "B" ∈ TG) (hdg : decode cc pc = .ok (.getfield index, 3)) (k : Wa E y cc nL ret d res (pc + 3) lv (.int 0 :: st) h) : Wa E y cc nL ret d res pc lv (.ref (eK E w) :: st) h := by
  intro p e s m args below meth c H locs ls X
  obtain ⟨⟨hx, hb, hr, hml, hown, hts, hlk⟩, hSt, hP, hS, hl⟩ := id X
  exact vk_getf hx hb (hSt.2.2.2.2.2.1.1 w hi).2.1 hS hown (hts _ hlink) (fun x q => q) hdg (k p e s m args below meth c H locs ls X)
theorem r_svalue {index w : Nat} (hi : w < 14) (hlink : Cond.fieldLink y.cls index "java/lang/String" "value" "[B" ∈ TG) (hdg : decode cc pc = .ok (.getfield index, 3)) (k : Wa E y cc nL ret d res (pc + 3) lv (.ref (eV E w) :: st) h) : Wa E y cc nL ret d res pc lv (.ref (eK E w) :: st) h := by
  intro p e s m args below meth c H locs ls X
  obtain ⟨⟨hx, hb, hr, hml, hown, hts, hlk⟩, hSt, hP, hS, hl⟩ := id X
  exact vk_getf hx hb (hSt.2.2.2.2.2.1.1 w hi).2.2.1 hS hown (hts _ hlink) (fun x q => q) hdg (k p e s m args below meth c H locs ls X)
theorem r_svlen {w : Nat} (hi : w < 14) (hdg : decode cc pc = .ok (.arraylength, 1)) (k : Wa E y cc nL ret d res (pc + 1) lv (.int (Int32.ofNat (sLn.getD w 0)) :: st) h) : Wa E y cc nL ret d res pc lv (.ref (eV E w) :: st) h := by
  intro p e s m args below meth c H locs ls X
  obtain ⟨⟨hx, hb, hr, hml, hown, hts, hlk⟩, hSt, hP, hS, hl⟩ := id X
  exact va_tlen hx hb (hSt.2.2.2.2.2.1.1 w hi).2.2.2 hS rfl hdg (k p e s m args below meth c H locs ls X)
theorem r_svld {w : Nat} {i : Int32} (hi : w < 14) (hin : vp_in i (sLn.getD w 0)) (hdg : decode cc pc = .ok (.baload, 1)) (k : Wa E y cc nL ret d res (pc + 1) lv (.int ((sBy.getD w []).getD i.toNatClampNeg 0) :: st) h) : Wa E y cc nL ret d res pc lv (.int i :: .ref (eV E w) :: st) h := by
  intro p e s m args below meth c H locs ls X
  obtain ⟨⟨hx, hb, hr, hml, hown, hts, hlk⟩, hSt, hP, hS, hl⟩ := id X
  exact va_tb hx hb (hSt.2.2.2.2.2.1.1 w hi).2.2.2 hS hin rfl hdg (k p e s m args below meth c H locs ls X)
end
theorem hy_J0_coder_7d493 : yJ0_coder_7d493.cls ≠ "java/lang/invoke/MethodHandle" ∧ yJ0_coder_7d493.cls ≠ "java/lang/invoke/VarHandle" ∧ (parseMethodDescriptor yJ0_coder_7d493.desc).map (fun d => d.parameters.length) = some 0 := by decide +kernel
theorem hy_J0_isLatin1_aae02 : yJ0_isLatin1_aae02.cls ≠ "java/lang/invoke/MethodHandle" ∧ yJ0_isLatin1_aae02.cls ≠ "java/lang/invoke/VarHandle" ∧ (parseMethodDescriptor yJ0_isLatin1_aae02.desc).map (fun d => d.parameters.length) = some 0 := by decide +kernel
theorem hy_J0_checkIndex_df160 : yJ0_checkIndex_df160.cls ≠ "java/lang/invoke/MethodHandle" ∧ yJ0_checkIndex_df160.cls ≠ "java/lang/invoke/VarHandle" ∧ (parseMethodDescriptor yJ0_checkIndex_df160.desc).map (fun d => d.parameters.length) = some 2 := by decide +kernel
theorem hy_J3_checkIndex_8e157 : yJ3_checkIndex_8e157.cls ≠ "java/lang/invoke/MethodHandle" ∧ yJ3_checkIndex_8e157.cls ≠ "java/lang/invoke/VarHandle" ∧ (parseMethodDescriptor yJ3_checkIndex_8e157.desc).map (fun d => d.parameters.length) = some 3 := by decide +kernel
theorem hy_J1_charAt_3b067 : yJ1_charAt_3b067.cls ≠ "java/lang/invoke/MethodHandle" ∧ yJ1_charAt_3b067.cls ≠ "java/lang/invoke/VarHandle" ∧ (parseMethodDescriptor yJ1_charAt_3b067.desc).map (fun d => d.parameters.length) = some 2 := by decide +kernel
theorem hy_J0_length_8abf5 : yJ0_length_8abf5.cls ≠ "java/lang/invoke/MethodHandle" ∧ yJ0_length_8abf5.cls ≠ "java/lang/invoke/VarHandle" ∧ (parseMethodDescriptor yJ0_length_8abf5.desc).map (fun d => d.parameters.length) = some 0 := by decide +kernel
theorem hy_J0_charAt_5068e : yJ0_charAt_5068e.cls ≠ "java/lang/invoke/MethodHandle" ∧ yJ0_charAt_5068e.cls ≠ "java/lang/invoke/VarHandle" ∧ (parseMethodDescriptor yJ0_charAt_5068e.desc).map (fun d => d.parameters.length) = some 1 := by decide +kernel
theorem s_J0_coder_7d493 {E : EN} {h : Hp} {w : Nat} (hi : w < 14) : Sem E yJ0_coder_7d493 cJ0_coder_7d493 1 (some .byte) 1 [.ref (eK E w)] h (some (.int 0), h) := by
  refine Sem.mk (lv := [(0, .ref (eK E w))]) (by decide) (Nat.le_of_ble_eq_true rfl) rfl ?_
  refine r_cstr wd_649 dJ0_coder_7d493_0 ?_
  refine r_if_eq (tgt := 13) dJ0_coder_7d493_3 (by decide) (fun c => absurd c (by decide)) (fun c => ?_)
  refine r_aload_n dJ0_coder_7d493_6 0 rfl ?_
  refine r_scoder hi wd_1161 dJ0_coder_7d493_7 ?_
  refine r_goto (tgt := 14) dJ0_coder_7d493_10 (by decide) ?_
  exact r_zret rfl rfl dJ0_coder_7d493_14
theorem s_J0_isLatin1_aae02 {E : EN} {h : Hp} {w : Nat} (hi : w < 14) : Sem E yJ0_isLatin1_aae02 cJ0_isLatin1_aae02 1 (some .boolean) 1 [.ref (eK E w)] h (some (.int 1), h) := by
  refine Sem.mk (lv := [(0, .ref (eK E w))]) (by decide) (Nat.le_of_ble_eq_true rfl) rfl ?_
  refine r_cstr wd_649 dJ0_isLatin1_aae02_0 ?_
  refine r_if_eq (tgt := 17) dJ0_isLatin1_aae02_3 (by decide) (fun c => absurd c (by decide)) (fun c => ?_)
  refine r_aload_n dJ0_isLatin1_aae02_6 0 rfl ?_
  refine r_scoder hi wd_1161 dJ0_isLatin1_aae02_7 ?_
  refine r_if_ne (tgt := 17) dJ0_isLatin1_aae02_10 (by decide) (fun c => absurd rfl c) (fun c => ?_)
  refine r_iconst (v := 1) dJ0_isLatin1_aae02_13 (by decide) ?_
  refine r_goto (tgt := 18) dJ0_isLatin1_aae02_14 (by decide) ?_
  exact r_zret rfl rfl dJ0_isLatin1_aae02_18
def f_J0_length_8abf5 (w : Nat) : Option Int32 := if w < 14 then some (Int32.ofNat (sLn.getD w 0) >>> (0 &&& 31)) else none
theorem J0_length_8abf5_lt {w : Nat} {q9 : Int32} (hf : f_J0_length_8abf5 w = some q9) : w < 14 ∧ Int32.ofNat (sLn.getD w 0) >>> (0 &&& 31) = q9 := by
  rw [f_J0_length_8abf5] at hf
  by_cases hc : w < 14
  · exact ⟨hc, Option.some.inj (hf_pos hc hf)⟩
  · have hf := hf_neg hc hf
    cases hf
theorem s_J0_length_8abf5 {E : EN} {h : Hp} {w : Nat} {q9 : Int32} (hf : f_J0_length_8abf5 w = some q9) : Sem E yJ0_length_8abf5 cJ0_length_8abf5 1 (some .int) 2 [.ref (eK E w)] h (some (.int q9), h) := by
  obtain ⟨hi, e9⟩ := J0_length_8abf5_lt hf
  subst e9
  refine Sem.mk (lv := [(0, .ref (eK E w))]) (by decide) (Nat.le_of_ble_eq_true rfl) rfl ?_
  refine r_aload_n dJ0_length_8abf5_0 0 rfl ?_
  refine r_svalue hi wd_1160 dJ0_length_8abf5_1 ?_
  refine r_svlen hi dJ0_length_8abf5_4 ?_
  refine r_aload_n dJ0_length_8abf5_5 0 rfl ?_
  refine r_callVi (As := []) (b := (eK E w)) (st := [.int (Int32.ofNat (sLn.getD w 0))]) (s_J0_coder_7d493 hi) (by decide) (by decide) wd_645 wd_646 wd_647 wd_79 wd_648 hy_J0_coder_7d493 (Rc.str hi) rfl (Nat.le_of_ble_eq_true rfl) dJ0_length_8abf5_6 ?_
  refine r_ishr dJ0_length_8abf5_9 ?_
  exact r_iret rfl dJ0_length_8abf5_10
theorem s_J3_checkIndex_8e157_n {E : EN} {h : Hp} {i n : Int32} (h1 : ¬ i < 0) (h2 : i < n) : Sem E yJ3_checkIndex_8e157 cJ3_checkIndex_8e157 3 (some .int) 1 [.int i, .int n, .null] h (some (.int i), h) := by
  refine Sem.mk (lv := [(0, .int i), (1, .int n), (2, .null)]) (by decide) (Nat.le_of_ble_eq_true rfl) rfl ?_
  refine r_iload_n dJ3_checkIndex_8e157_0 0 rfl ?_
  refine r_if_lt (tgt := 9) dJ3_checkIndex_8e157_1 (by decide) (fun c => absurd c h1) (fun c => ?_)
  refine r_iload_n dJ3_checkIndex_8e157_4 0 rfl ?_
  refine r_iload_n dJ3_checkIndex_8e157_5 1 rfl ?_
  refine r_icmp_lt (tgt := 16) dJ3_checkIndex_8e157_6 (by decide) (fun c => ?_) (fun c => absurd h2 c)
  refine r_iload_n dJ3_checkIndex_8e157_16 0 rfl ?_
  exact r_iret rfl dJ3_checkIndex_8e157_17
theorem s_J3_checkIndex_8e157_r {E : EN} {h : Hp} {t : Nat} {i n : Int32} (h1 : ¬ i < 0) (h2 : i < n) : Sem E yJ3_checkIndex_8e157 cJ3_checkIndex_8e157 3 (some .int) 1 [.int i, .int n, (.ref t)] h (some (.int i), h) := by
  refine Sem.mk (lv := [(0, .int i), (1, .int n), (2, (.ref t))]) (by decide) (Nat.le_of_ble_eq_true rfl) rfl ?_
  refine r_iload_n dJ3_checkIndex_8e157_0 0 rfl ?_
  refine r_if_lt (tgt := 9) dJ3_checkIndex_8e157_1 (by decide) (fun c => absurd c h1) (fun c => ?_)
  refine r_iload_n dJ3_checkIndex_8e157_4 0 rfl ?_
  refine r_iload_n dJ3_checkIndex_8e157_5 1 rfl ?_
  refine r_icmp_lt (tgt := 16) dJ3_checkIndex_8e157_6 (by decide) (fun c => ?_) (fun c => absurd h2 c)
  refine r_iload_n dJ3_checkIndex_8e157_16 0 rfl ?_
  exact r_iret rfl dJ3_checkIndex_8e157_17
theorem s_J0_checkIndex_df160 {E : EN} {h : Hp} {i n : Int32} (h1 : ¬ i < 0) (h2 : i < n) : Sem E yJ0_checkIndex_df160 cJ0_checkIndex_df160 2 none 2 [.int i, .int n] h (none, h) := by
  refine Sem.mk (lv := [(0, .int i), (1, .int n)]) (by decide) (Nat.le_of_ble_eq_true rfl) rfl ?_
  refine r_iload_n dJ0_checkIndex_df160_0 0 rfl ?_
  refine r_iload_n dJ0_checkIndex_df160_1 1 rfl ?_
  refine r_sio wd_665 dJ0_checkIndex_df160_2 ?_ (fun t => ?_)
  · refine r_callSi (As := [.int i, .int n, .null]) (st := []) (s_J3_checkIndex_8e157_n h1 h2) (by decide) (by decide) wd_667 wd_668 wd_81 wd_669 hy_J3_checkIndex_8e157 rfl (Nat.le_of_ble_eq_true rfl) dJ0_checkIndex_df160_5 ?_
    refine r_pop dJ0_checkIndex_df160_8 rfl ?_
    exact r_vret rfl dJ0_checkIndex_df160_9
  · refine r_callSi (As := [.int i, .int n, .ref t]) (st := []) (s_J3_checkIndex_8e157_r h1 h2) (by decide) (by decide) wd_667 wd_668 wd_81 wd_669 hy_J3_checkIndex_8e157 rfl (Nat.le_of_ble_eq_true rfl) dJ0_checkIndex_df160_5 ?_
    refine r_pop dJ0_checkIndex_df160_8 rfl ?_
    exact r_vret rfl dJ0_checkIndex_df160_9
def chS (w : Nat) (i : Int32) : Int32 := (((((sBy.getD w []).getD i.toNatClampNeg 0) &&& 255).toUInt32) % 65536).toInt32
theorem sLn_lt {w : Nat} : sLn.getD w 0 < 2 ^ 31 := by
  by_cases hw : w < 14
  · have h : ∀ w, w < 14 → sLn.getD w 0 < 2 ^ 31 := by decide +kernel
    exact h w hw
  · have h : sLn.length = 14 := by decide +kernel
    rw [List.getD_eq_default _ _ (by omega)]
    decide
theorem s_J1_charAt_3b067 {E : EN} {h : Hp} {w : Nat} {i : Int32} (hi : w < 14) (hin : vp_in i (sLn.getD w 0)) : Sem E yJ1_charAt_3b067 cJ1_charAt_3b067 2 (some .char) 3 [.ref (eV E w), .int i] h (some (.int (chS w i)), h) := by
  have h1 : ¬ i < 0 := fun q => hin (Or.inl q)
  have h2 : i < Int32.ofNat (sLn.getD w 0) := by
    obtain ⟨j, hj, rfl⟩ := vp_in_of hin sLn_lt
    exact nI_lt hj sLn_lt
  refine Sem.mk (lv := [(0, .ref (eV E w)), (1, .int i)]) (by decide) (Nat.le_of_ble_eq_true rfl) rfl ?_
  refine r_iload_n dJ1_charAt_3b067_0 1 rfl ?_
  refine r_aload_n dJ1_charAt_3b067_1 0 rfl ?_
  refine r_svlen hi dJ1_charAt_3b067_2 ?_
  refine r_callSv (As := [.int i, .int (Int32.ofNat (sLn.getD w 0))]) (st := []) (s_J0_checkIndex_df160 h1 h2) (by decide) (by decide) wd_662 wd_663 wd_79 wd_664 hy_J0_checkIndex_df160 rfl (Nat.le_of_ble_eq_true rfl) dJ1_charAt_3b067_3 ?_
  refine r_aload_n dJ1_charAt_3b067_6 0 rfl ?_
  refine r_iload_n dJ1_charAt_3b067_7 1 rfl ?_
  refine r_svld hi hin dJ1_charAt_3b067_8 ?_
  refine r_sipush (v := 255) dJ1_charAt_3b067_9 (by decide) ?_
  refine r_iand dJ1_charAt_3b067_12 ?_
  refine r_i2c dJ1_charAt_3b067_13 ?_
  exact r_zret rfl (pk_nc _) dJ1_charAt_3b067_14
def f_J0_charAt_5068e (w : Nat) (a0 : Int32) : Option Int32 := if w < 14 then if inB a0 (sLn.getD w 0) then some (chS w a0) else none else none
theorem J0_charAt_5068e_ok {w : Nat} {a0 q9 : Int32} (hf : f_J0_charAt_5068e w a0 = some q9) : w < 14 ∧ vp_in a0 (sLn.getD w 0) ∧ chS w a0 = q9 := by
  rw [f_J0_charAt_5068e] at hf
  by_cases hc : w < 14
  · obtain ⟨h1, h2⟩ := hf_in (hf_pos hc hf)
    exact ⟨hc, h1, Option.some.inj h2⟩
  · have hf := hf_neg hc hf
    cases hf
theorem J0_charAt_5068e_lt {w : Nat} {a0 q9 : Int32} (hf : f_J0_charAt_5068e w a0 = some q9) : w < 14 := (J0_charAt_5068e_ok hf).1
theorem s_J0_charAt_5068e {E : EN} {h : Hp} {w : Nat} {a0 q9 : Int32} (hf : f_J0_charAt_5068e w a0 = some q9) : Sem E yJ0_charAt_5068e cJ0_charAt_5068e 2 (some .char) 4 [.ref (eK E w), .int a0] h (some (.int q9), h) := by
  obtain ⟨hi, hin, e9⟩ := J0_charAt_5068e_ok hf
  subst e9
  refine Sem.mk (lv := [(0, .ref (eK E w)), (1, .int a0)]) (by decide) (Nat.le_of_ble_eq_true rfl) rfl ?_
  refine r_aload_n dJ0_charAt_5068e_0 0 rfl ?_
  refine r_callVi (As := []) (b := (eK E w)) (st := []) (s_J0_isLatin1_aae02 hi) (by decide) (by decide) wd_655 wd_656 wd_657 wd_79 wd_658 hy_J0_isLatin1_aae02 (Rc.str hi) rfl (Nat.le_of_ble_eq_true rfl) dJ0_charAt_5068e_1 ?_
  refine r_if_eq (tgt := 16) dJ0_charAt_5068e_4 (by decide) (fun c => absurd c (by decide)) (fun c => ?_)
  refine r_aload_n dJ0_charAt_5068e_7 0 rfl ?_
  refine r_svalue hi wd_1160 dJ0_charAt_5068e_8 ?_
  refine r_iload_n dJ0_charAt_5068e_11 1 rfl ?_
  refine r_callSi (As := [.ref (eV E w), .int a0]) (st := []) (s_J1_charAt_3b067 hi hin) (by decide) (by decide) wd_659 wd_660 wd_80 wd_661 hy_J1_charAt_3b067 rfl (Nat.le_of_ble_eq_true rfl) dJ0_charAt_5068e_12 ?_
  exact r_zret rfl (pk_nc _) dJ0_charAt_5068e_15
theorem J0_length_8abf5_lt9 {w : Nat} {q9 : Int32} (hf : f_J0_length_8abf5 w = some q9) : w < 14 := (J0_length_8abf5_lt hf).1
theorem J0_charAt_5068e_lt9 {w : Nat} {a0 q9 : Int32} (hf : f_J0_charAt_5068e w a0 = some q9) : w < 14 := (J0_charAt_5068e_ok hf).1
end
section
theorem zz_t : 1 + 1 = 2 := rfl
end
