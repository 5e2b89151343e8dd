section
-- ===== PART A: goes FIRST, ahead of the names: the tables' words, and 'selects' of the private methods out of them =====
/-- a private method of a class that the tables say can be made, by its rows of tables_1 -/
def lw_okq (q : MethodName × Nat) : Prop := (q.1.cls ≠ "java/lang/invoke/MethodHandle" ∧ q.1.cls ≠ "java/lang/invoke/VarHandle") ∧ Cond.instantiable q.1.cls q.2 ∈ tables_1 ∧ Cond.privateMethod q.1 ∈ tables_1 ∧ Cond.instanceMethod q.1 ∈ tables_1
theorem lw_p0 : lw_okq (⟨"CardRights$Needs", "clear", "()V"⟩, 2) := ⟨⟨by decide +kernel, by decide +kernel⟩, List.mem_of_getElem? (i := 120) (by decide +kernel), List.mem_of_getElem? (i := 176) (by decide +kernel), List.mem_of_getElem? (i := 177) (by decide +kernel)⟩
theorem lw_p1 : lw_okq (⟨"CardRights", "rightsThatHave", "(I)I"⟩, 10) := ⟨⟨by decide +kernel, by decide +kernel⟩, List.mem_of_getElem? (i := 28) (by decide +kernel), List.mem_of_getElem? (i := 180) (by decide +kernel), List.mem_of_getElem? (i := 181) (by decide +kernel)⟩
theorem lw_p2 : lw_okq (⟨"CardRights$Right", "isFor", "(III)Z"⟩, 5) := ⟨⟨by decide +kernel, by decide +kernel⟩, List.mem_of_getElem? (i := 225) (by decide +kernel), List.mem_of_getElem? (i := 223) (by decide +kernel), List.mem_of_getElem? (i := 224) (by decide +kernel)⟩
theorem lw_p3 : lw_okq (⟨"CardRights$Right", "spans", "(I)Z"⟩, 5) := ⟨⟨by decide +kernel, by decide +kernel⟩, List.mem_of_getElem? (i := 225) (by decide +kernel), List.mem_of_getElem? (i := 228) (by decide +kernel), List.mem_of_getElem? (i := 229) (by decide +kernel)⟩
theorem lw_p4 : lw_okq (⟨"CardRights$Needs", "add", "(I)V"⟩, 2) := ⟨⟨by decide +kernel, by decide +kernel⟩, List.mem_of_getElem? (i := 120) (by decide +kernel), List.mem_of_getElem? (i := 232) (by decide +kernel), List.mem_of_getElem? (i := 233) (by decide +kernel)⟩
theorem lw_p5 : lw_okq (⟨"CardRights$Needs", "leastOfTheFewest", "()I"⟩, 2) := ⟨⟨by decide +kernel, by decide +kernel⟩, List.mem_of_getElem? (i := 120) (by decide +kernel), List.mem_of_getElem? (i := 236) (by decide +kernel), List.mem_of_getElem? (i := 237) (by decide +kernel)⟩
theorem lw_p6 : lw_okq (⟨"CardRights$Needs", "leastWith", "(III)I"⟩, 2) := ⟨⟨by decide +kernel, by decide +kernel⟩, List.mem_of_getElem? (i := 120) (by decide +kernel), List.mem_of_getElem? (i := 240) (by decide +kernel), List.mem_of_getElem? (i := 241) (by decide +kernel)⟩
theorem lw_p7 : lw_okq (⟨"CardRights$Needs", "canBeMet", "(III)Z"⟩, 2) := ⟨⟨by decide +kernel, by decide +kernel⟩, List.mem_of_getElem? (i := 120) (by decide +kernel), List.mem_of_getElem? (i := 244) (by decide +kernel), List.mem_of_getElem? (i := 245) (by decide +kernel)⟩
theorem lw_p8 : lw_okq (⟨"java/lang/Throwable", "fillInStackTrace", "(I)Ljava/lang/Throwable;"⟩, 6) := ⟨⟨by decide +kernel, by decide +kernel⟩, List.mem_of_getElem? (i := 301) (by decide +kernel), List.mem_of_getElem? (i := 299) (by decide +kernel), List.mem_of_getElem? (i := 300) (by decide +kernel)⟩
theorem lw_p9 : lw_okq (⟨"java/util/ArrayList", "add", "(Ljava/lang/Object;[Ljava/lang/Object;I)V"⟩, 3) := ⟨⟨by decide +kernel, by decide +kernel⟩, List.mem_of_getElem? (i := 36) (by decide +kernel), List.mem_of_getElem? (i := 371) (by decide +kernel), List.mem_of_getElem? (i := 372) (by decide +kernel)⟩
theorem lw_p10 : lw_okq (⟨"java/util/ArrayList", "grow", "()[Ljava/lang/Object;"⟩, 3) := ⟨⟨by decide +kernel, by decide +kernel⟩, List.mem_of_getElem? (i := 36) (by decide +kernel), List.mem_of_getElem? (i := 375) (by decide +kernel), List.mem_of_getElem? (i := 376) (by decide +kernel)⟩
theorem lw_p11 : lw_okq (⟨"java/util/ArrayList", "grow", "(I)[Ljava/lang/Object;"⟩, 3) := ⟨⟨by decide +kernel, by decide +kernel⟩, List.mem_of_getElem? (i := 36) (by decide +kernel), List.mem_of_getElem? (i := 379) (by decide +kernel), List.mem_of_getElem? (i := 380) (by decide +kernel)⟩
theorem lw_p12 : lw_okq (⟨"CardRights", "roomNumbered", "(I)LCardRights$Room;"⟩, 10) := ⟨⟨by decide +kernel, by decide +kernel⟩, List.mem_of_getElem? (i := 28) (by decide +kernel), List.mem_of_getElem? (i := 436) (by decide +kernel), List.mem_of_getElem? (i := 437) (by decide +kernel)⟩
theorem lw_p13 : lw_okq (⟨"CardRights", "personNumbered", "(I)LCardRights$Person;"⟩, 10) := ⟨⟨by decide +kernel, by decide +kernel⟩, List.mem_of_getElem? (i := 28) (by decide +kernel), List.mem_of_getElem? (i := 537) (by decide +kernel), List.mem_of_getElem? (i := 538) (by decide +kernel)⟩
theorem lw_p14 : lw_okq (⟨"CardRights", "cardNumbered", "(I)LCardRights$Card;"⟩, 10) := ⟨⟨by decide +kernel, by decide +kernel⟩, List.mem_of_getElem? (i := 28) (by decide +kernel), List.mem_of_getElem? (i := 615) (by decide +kernel), List.mem_of_getElem? (i := 616) (by decide +kernel)⟩
theorem lw_p15 : lw_okq (⟨"CardRights", "doorNumbered", "(I)LCardRights$Door;"⟩, 10) := ⟨⟨by decide +kernel, by decide +kernel⟩, List.mem_of_getElem? (i := 28) (by decide +kernel), List.mem_of_getElem? (i := 627) (by decide +kernel), List.mem_of_getElem? (i := 628) (by decide +kernel)⟩
def lw_privs_1 : List (MethodName × Nat) := [(⟨"CardRights$Needs", "clear", "()V"⟩, 2), (⟨"CardRights", "rightsThatHave", "(I)I"⟩, 10), (⟨"CardRights$Right", "isFor", "(III)Z"⟩, 5), (⟨"CardRights$Right", "spans", "(I)Z"⟩, 5), (⟨"CardRights$Needs", "add", "(I)V"⟩, 2), (⟨"CardRights$Needs", "leastOfTheFewest", "()I"⟩, 2), (⟨"CardRights$Needs", "leastWith", "(III)I"⟩, 2), (⟨"CardRights$Needs", "canBeMet", "(III)Z"⟩, 2), (⟨"java/lang/Throwable", "fillInStackTrace", "(I)Ljava/lang/Throwable;"⟩, 6), (⟨"java/util/ArrayList", "add", "(Ljava/lang/Object;[Ljava/lang/Object;I)V"⟩, 3), (⟨"java/util/ArrayList", "grow", "()[Ljava/lang/Object;"⟩, 3), (⟨"java/util/ArrayList", "grow", "(I)[Ljava/lang/Object;"⟩, 3), (⟨"CardRights", "roomNumbered", "(I)LCardRights$Room;"⟩, 10), (⟨"CardRights", "personNumbered", "(I)LCardRights$Person;"⟩, 10), (⟨"CardRights", "cardNumbered", "(I)LCardRights$Card;"⟩, 10), (⟨"CardRights", "doorNumbered", "(I)LCardRights$Door;"⟩, 10)]
theorem lw_r1 : ∀ q ∈ lw_privs_1, lw_okq q := List.forall_mem_cons.mpr ⟨lw_p0, List.forall_mem_cons.mpr ⟨lw_p1, List.forall_mem_cons.mpr ⟨lw_p2, List.forall_mem_cons.mpr ⟨lw_p3, List.forall_mem_cons.mpr ⟨lw_p4, List.forall_mem_cons.mpr ⟨lw_p5, List.forall_mem_cons.mpr ⟨lw_p6, List.forall_mem_cons.mpr ⟨lw_p7, List.forall_mem_cons.mpr ⟨lw_p8, List.forall_mem_cons.mpr ⟨lw_p9, List.forall_mem_cons.mpr ⟨lw_p10, List.forall_mem_cons.mpr ⟨lw_p11, List.forall_mem_cons.mpr ⟨lw_p12, List.forall_mem_cons.mpr ⟨lw_p13, List.forall_mem_cons.mpr ⟨lw_p14, List.forall_mem_cons.mpr ⟨lw_p15, fun _ h => absurd h List.not_mem_nil⟩⟩⟩⟩⟩⟩⟩⟩⟩⟩⟩⟩⟩⟩⟩⟩
theorem lw_p16 : lw_okq (⟨"CardRights$Door", "isAirlockWith", "(LCardRights$Door;)Z"⟩, 10) := ⟨⟨by decide +kernel, by decide +kernel⟩, List.mem_of_getElem? (i := 443) (by decide +kernel), List.mem_of_getElem? (i := 640) (by decide +kernel), List.mem_of_getElem? (i := 641) (by decide +kernel)⟩
theorem lw_p17 : lw_okq (⟨"CardRights$Door", "setAirlockWith", "(LCardRights$Door;Z)V"⟩, 10) := ⟨⟨by decide +kernel, by decide +kernel⟩, List.mem_of_getElem? (i := 443) (by decide +kernel), List.mem_of_getElem? (i := 644) (by decide +kernel), List.mem_of_getElem? (i := 645) (by decide +kernel)⟩
theorem lw_p18 : lw_okq (⟨"CardRights", "checkMinuteFromNow", "(I)V"⟩, 10) := ⟨⟨by decide +kernel, by decide +kernel⟩, List.mem_of_getElem? (i := 28) (by decide +kernel), List.mem_of_getElem? (i := 655) (by decide +kernel), List.mem_of_getElem? (i := 656) (by decide +kernel)⟩
theorem lw_p19 : lw_okq (⟨"CardRights$Knowledge", "copyFrom", "(LCardRights$Knowledge;)V"⟩, 4) := ⟨⟨by decide +kernel, by decide +kernel⟩, List.mem_of_getElem? (i := 62) (by decide +kernel), List.mem_of_getElem? (i := 667) (by decide +kernel), List.mem_of_getElem? (i := 668) (by decide +kernel)⟩
theorem lw_p20 : lw_okq (⟨"CardRights", "goThroughRows", "(LCardRights$Door;)I"⟩, 10) := ⟨⟨by decide +kernel, by decide +kernel⟩, List.mem_of_getElem? (i := 28) (by decide +kernel), List.mem_of_getElem? (i := 672) (by decide +kernel), List.mem_of_getElem? (i := 673) (by decide +kernel)⟩
theorem lw_p21 : lw_okq (⟨"CardRights", "refusalLookingBack", "(LCardRights$Row;)I"⟩, 10) := ⟨⟨by decide +kernel, by decide +kernel⟩, List.mem_of_getElem? (i := 28) (by decide +kernel), List.mem_of_getElem? (i := 677) (by decide +kernel), List.mem_of_getElem? (i := 678) (by decide +kernel)⟩
theorem lw_p22 : lw_okq (⟨"CardRights$Knowledge", "knowsCard", "(I)Z"⟩, 4) := ⟨⟨by decide +kernel, by decide +kernel⟩, List.mem_of_getElem? (i := 62) (by decide +kernel), List.mem_of_getElem? (i := 684) (by decide +kernel), List.mem_of_getElem? (i := 685) (by decide +kernel)⟩
theorem lw_p23 : lw_okq (⟨"CardRights$Knowledge", "isLost", "(II)Z"⟩, 4) := ⟨⟨by decide +kernel, by decide +kernel⟩, List.mem_of_getElem? (i := 62) (by decide +kernel), List.mem_of_getElem? (i := 688) (by decide +kernel), List.mem_of_getElem? (i := 689) (by decide +kernel)⟩
theorem lw_p24 : lw_okq (⟨"CardRights", "hasRight", "(LCardRights$Knowledge;III)Z"⟩, 10) := ⟨⟨by decide +kernel, by decide +kernel⟩, List.mem_of_getElem? (i := 28) (by decide +kernel), List.mem_of_getElem? (i := 695) (by decide +kernel), List.mem_of_getElem? (i := 696) (by decide +kernel)⟩
theorem lw_p25 : lw_okq (⟨"CardRights$Knowledge", "isEnded", "(II)Z"⟩, 4) := ⟨⟨by decide +kernel, by decide +kernel⟩, List.mem_of_getElem? (i := 62) (by decide +kernel), List.mem_of_getElem? (i := 699) (by decide +kernel), List.mem_of_getElem? (i := 700) (by decide +kernel)⟩
theorem lw_p26 : lw_okq (⟨"CardRights$Findings", "add", "(IIII)V"⟩, 2) := ⟨⟨by decide +kernel, by decide +kernel⟩, List.mem_of_getElem? (i := 89) (by decide +kernel), List.mem_of_getElem? (i := 703) (by decide +kernel), List.mem_of_getElem? (i := 704) (by decide +kernel)⟩
theorem lw_p27 : lw_okq (⟨"CardRights", "refusalByItself", "(LCardRights$Card;LCardRights$Door;LCardRights$Room;I)I"⟩, 10) := ⟨⟨by decide +kernel, by decide +kernel⟩, List.mem_of_getElem? (i := 28) (by decide +kernel), List.mem_of_getElem? (i := 731) (by decide +kernel), List.mem_of_getElem? (i := 732) (by decide +kernel)⟩
theorem lw_p28 : lw_okq (⟨"CardRights$Door", "otherRoom", "(LCardRights$Room;)LCardRights$Room;"⟩, 10) := ⟨⟨by decide +kernel, by decide +kernel⟩, List.mem_of_getElem? (i := 443) (by decide +kernel), List.mem_of_getElem? (i := 735) (by decide +kernel), List.mem_of_getElem? (i := 736) (by decide +kernel)⟩
theorem lw_p29 : lw_okq (⟨"CardRights", "isAirlockOpen", "(LCardRights$Door;)Z"⟩, 10) := ⟨⟨by decide +kernel, by decide +kernel⟩, List.mem_of_getElem? (i := 28) (by decide +kernel), List.mem_of_getElem? (i := 739) (by decide +kernel), List.mem_of_getElem? (i := 740) (by decide +kernel)⟩
theorem lw_p30 : lw_okq (⟨"CardRights", "letIn", "(LCardRights$Card;LCardRights$Door;LCardRights$Room;I)V"⟩, 10) := ⟨⟨by decide +kernel, by decide +kernel⟩, List.mem_of_getElem? (i := 28) (by decide +kernel), List.mem_of_getElem? (i := 743) (by decide +kernel), List.mem_of_getElem? (i := 744) (by decide +kernel)⟩
theorem lw_p31 : lw_okq (⟨"CardRights$Uses", "mark", "(III)V"⟩, 2) := ⟨⟨by decide +kernel, by decide +kernel⟩, List.mem_of_getElem? (i := 104) (by decide +kernel), List.mem_of_getElem? (i := 747) (by decide +kernel), List.mem_of_getElem? (i := 748) (by decide +kernel)⟩
def lw_privs_2 : List (MethodName × Nat) := [(⟨"CardRights$Door", "isAirlockWith", "(LCardRights$Door;)Z"⟩, 10), (⟨"CardRights$Door", "setAirlockWith", "(LCardRights$Door;Z)V"⟩, 10), (⟨"CardRights", "checkMinuteFromNow", "(I)V"⟩, 10), (⟨"CardRights$Knowledge", "copyFrom", "(LCardRights$Knowledge;)V"⟩, 4), (⟨"CardRights", "goThroughRows", "(LCardRights$Door;)I"⟩, 10), (⟨"CardRights", "refusalLookingBack", "(LCardRights$Row;)I"⟩, 10), (⟨"CardRights$Knowledge", "knowsCard", "(I)Z"⟩, 4), (⟨"CardRights$Knowledge", "isLost", "(II)Z"⟩, 4), (⟨"CardRights", "hasRight", "(LCardRights$Knowledge;III)Z"⟩, 10), (⟨"CardRights$Knowledge", "isEnded", "(II)Z"⟩, 4), (⟨"CardRights$Findings", "add", "(IIII)V"⟩, 2), (⟨"CardRights", "refusalByItself", "(LCardRights$Card;LCardRights$Door;LCardRights$Room;I)I"⟩, 10), (⟨"CardRights$Door", "otherRoom", "(LCardRights$Room;)LCardRights$Room;"⟩, 10), (⟨"CardRights", "isAirlockOpen", "(LCardRights$Door;)Z"⟩, 10), (⟨"CardRights", "letIn", "(LCardRights$Card;LCardRights$Door;LCardRights$Room;I)V"⟩, 10), (⟨"CardRights$Uses", "mark", "(III)V"⟩, 2)]
theorem lw_r2 : ∀ q ∈ lw_privs_2, lw_okq q := List.forall_mem_cons.mpr ⟨lw_p16, List.forall_mem_cons.mpr ⟨lw_p17, List.forall_mem_cons.mpr ⟨lw_p18, List.forall_mem_cons.mpr ⟨lw_p19, List.forall_mem_cons.mpr ⟨lw_p20, List.forall_mem_cons.mpr ⟨lw_p21, List.forall_mem_cons.mpr ⟨lw_p22, List.forall_mem_cons.mpr ⟨lw_p23, List.forall_mem_cons.mpr ⟨lw_p24, List.forall_mem_cons.mpr ⟨lw_p25, List.forall_mem_cons.mpr ⟨lw_p26, List.forall_mem_cons.mpr ⟨lw_p27, List.forall_mem_cons.mpr ⟨lw_p28, List.forall_mem_cons.mpr ⟨lw_p29, List.forall_mem_cons.mpr ⟨lw_p30, List.forall_mem_cons.mpr ⟨lw_p31, fun _ h => absurd h List.not_mem_nil⟩⟩⟩⟩⟩⟩⟩⟩⟩⟩⟩⟩⟩⟩⟩⟩
theorem lw_p32 : lw_okq (⟨"CardRights$Findings", "keptCount", "()I"⟩, 2) := ⟨⟨by decide +kernel, by decide +kernel⟩, List.mem_of_getElem? (i := 89) (by decide +kernel), List.mem_of_getElem? (i := 806) (by decide +kernel), List.mem_of_getElem? (i := 807) (by decide +kernel)⟩
theorem lw_p33 : lw_okq (⟨"CardRightsModel", "goes", "(ZZ)Z"⟩, 41) := ⟨⟨by decide +kernel, by decide +kernel⟩, List.mem_of_getElem? (i := 813) (by decide +kernel), List.mem_of_getElem? (i := 956) (by decide +kernel), List.mem_of_getElem? (i := 957) (by decide +kernel)⟩
theorem lw_p34 : lw_okq (⟨"CardRightsModel", "tell", "(III)V"⟩, 41) := ⟨⟨by decide +kernel, by decide +kernel⟩, List.mem_of_getElem? (i := 813) (by decide +kernel), List.mem_of_getElem? (i := 976) (by decide +kernel), List.mem_of_getElem? (i := 977) (by decide +kernel)⟩
theorem lw_p35 : lw_okq (⟨"CardRightsModel", "told", "(III)I"⟩, 41) := ⟨⟨by decide +kernel, by decide +kernel⟩, List.mem_of_getElem? (i := 813) (by decide +kernel), List.mem_of_getElem? (i := 988) (by decide +kernel), List.mem_of_getElem? (i := 989) (by decide +kernel)⟩
theorem lw_p36 : lw_okq (⟨"CardRightsModel", "isLater", "(I)Z"⟩, 41) := ⟨⟨by decide +kernel, by decide +kernel⟩, List.mem_of_getElem? (i := 813) (by decide +kernel), List.mem_of_getElem? (i := 1008) (by decide +kernel), List.mem_of_getElem? (i := 1009) (by decide +kernel)⟩
theorem lw_p37 : lw_okq (⟨"CardRightsModel", "isOf", "(II)Z"⟩, 41) := ⟨⟨by decide +kernel, by decide +kernel⟩, List.mem_of_getElem? (i := 813) (by decide +kernel), List.mem_of_getElem? (i := 1016) (by decide +kernel), List.mem_of_getElem? (i := 1017) (by decide +kernel)⟩
theorem lw_p38 : lw_okq (⟨"CardRightsModel", "refused", "(IIII)I"⟩, 41) := ⟨⟨by decide +kernel, by decide +kernel⟩, List.mem_of_getElem? (i := 813) (by decide +kernel), List.mem_of_getElem? (i := 1020) (by decide +kernel), List.mem_of_getElem? (i := 1021) (by decide +kernel)⟩
theorem lw_p39 : lw_okq (⟨"CardRightsModel", "why", "(IIIII)I"⟩, 41) := ⟨⟨by decide +kernel, by decide +kernel⟩, List.mem_of_getElem? (i := 813) (by decide +kernel), List.mem_of_getElem? (i := 1024) (by decide +kernel), List.mem_of_getElem? (i := 1025) (by decide +kernel)⟩
theorem lw_p40 : lw_okq (⟨"CardRightsModel", "spans", "(IIII)Z"⟩, 41) := ⟨⟨by decide +kernel, by decide +kernel⟩, List.mem_of_getElem? (i := 813) (by decide +kernel), List.mem_of_getElem? (i := 1028) (by decide +kernel), List.mem_of_getElem? (i := 1029) (by decide +kernel)⟩
theorem lw_p41 : lw_okq (⟨"CardRightsModel", "let", "(IIII)V"⟩, 41) := ⟨⟨by decide +kernel, by decide +kernel⟩, List.mem_of_getElem? (i := 813) (by decide +kernel), List.mem_of_getElem? (i := 1032) (by decide +kernel), List.mem_of_getElem? (i := 1033) (by decide +kernel)⟩
theorem lw_p42 : lw_okq (⟨"CardRightsModel", "meets", "(I[II)Z"⟩, 41) := ⟨⟨by decide +kernel, by decide +kernel⟩, List.mem_of_getElem? (i := 813) (by decide +kernel), List.mem_of_getElem? (i := 1075) (by decide +kernel), List.mem_of_getElem? (i := 1076) (by decide +kernel)⟩
def lw_privs_3 : List (MethodName × Nat) := [(⟨"CardRights$Findings", "keptCount", "()I"⟩, 2), (⟨"CardRightsModel", "goes", "(ZZ)Z"⟩, 41), (⟨"CardRightsModel", "tell", "(III)V"⟩, 41), (⟨"CardRightsModel", "told", "(III)I"⟩, 41), (⟨"CardRightsModel", "isLater", "(I)Z"⟩, 41), (⟨"CardRightsModel", "isOf", "(II)Z"⟩, 41), (⟨"CardRightsModel", "refused", "(IIII)I"⟩, 41), (⟨"CardRightsModel", "why", "(IIIII)I"⟩, 41), (⟨"CardRightsModel", "spans", "(IIII)Z"⟩, 41), (⟨"CardRightsModel", "let", "(IIII)V"⟩, 41), (⟨"CardRightsModel", "meets", "(I[II)Z"⟩, 41)]
theorem lw_r3 : ∀ q ∈ lw_privs_3, lw_okq q := List.forall_mem_cons.mpr ⟨lw_p32, List.forall_mem_cons.mpr ⟨lw_p33, List.forall_mem_cons.mpr ⟨lw_p34, List.forall_mem_cons.mpr ⟨lw_p35, List.forall_mem_cons.mpr ⟨lw_p36, List.forall_mem_cons.mpr ⟨lw_p37, List.forall_mem_cons.mpr ⟨lw_p38, List.forall_mem_cons.mpr ⟨lw_p39, List.forall_mem_cons.mpr ⟨lw_p40, List.forall_mem_cons.mpr ⟨lw_p41, List.forall_mem_cons.mpr ⟨lw_p42, fun _ h => absurd h List.not_mem_nil⟩⟩⟩⟩⟩⟩⟩⟩⟩⟩⟩
def lw_privs : List (MethodName × Nat) := lw_privs_1 ++ (lw_privs_2 ++ (lw_privs_3))
def lw_tbl : List Cond := k2_sels lw_privs ++ tables_1
theorem lw_privs_ok : ∀ q ∈ lw_privs, lw_okq q := by
  show ∀ q ∈ lw_privs_1 ++ (lw_privs_2 ++ (lw_privs_3)), lw_okq q
  exact List.forall_mem_append.mpr ⟨lw_r1, List.forall_mem_append.mpr ⟨lw_r2, lw_r3⟩⟩
-- ===== end of PART A; then your names; then what follows =====
end
section
/-! A LIGHT MACHINE over the kit's rows: one-step transformers in continuation form, each with its soundness; a method is a table of them. -/
abbrev cr_Oc : Type := Option Value ⊕ Nat
abbrev cr_Lv : Type := List (Option Value)
abbrev cr_K : Type := Nat → cr_Lv → List Value → Heap → Nat → Nat → Prop
abbrev cr_Q : Type := cr_Oc → Heap → Prop
abbrev cr_T : Type := cr_K → cr_Q → cr_Lv → List Value → Heap → Nat → Nat → Prop
/-- kinds of exceptions: 1 illegal argument, 2 illegal state -/
def cr_ex (k : Nat) : String := if k = 1 then "java/lang/IllegalArgumentException" else "java/lang/IllegalStateException"
def cr_Ex (k a : Nat) (U : State) (H : Heap) : Prop := ∃ cell : Cell, H[a]? = some cell ∧ cell.vm.isStatics = false ∧ U.vm.findClass (cr_ex k) = some cell.cls
def cr_O (Q : cr_Q) (s : State) (o : Outcome) (t : State) : Prop := (∃ v, o = .returned v ∧ Q (.inl v) t.heap) ∨ ∃ a k, o = .threw a ∧ cr_Ex k a s t.heap ∧ Q (.inr k) t.heap
def cr_FE (s t : State) (L : List Loc) (k n : Nat) : Prop := s.WarmedH t.vm ∧ s.sameButNew ({ t with vm := s.vm } : State) L k n
/-- what may be written: from lo on, and no statics' cell -/
def cr_lc (lo : Nat) (s : State) (a : Nat) : Prop := lo ≤ a ∧ ∀ cell : Cell, s.heap[a]? = some cell → cell.vm.isStatics = false
def cr_MQ (below : List Frame) (lo mc ms : Nat) (Q : cr_Q) (s : State) : State → Prop := fun t =>
  ∃ o, t.status = .running ∧ Ended t below o ∧ cr_O Q s o t ∧ ∃ L, cr_FE s t L mc ms ∧ ∀ q ∈ L, cr_lc lo s q.base
-- locals, by place
def cr_as : Nat → cr_Lv → List (Nat × Value)
  | _, [] => []
  | i, none :: t => cr_as (i + 1) t
  | i, some v :: t => (i, v) :: cr_as (i + 1) t
def cr_kl (x : Option Value) : Option Value := match x with
  | some (.long _) => none
  | some (.double _) => none
  | y => y
def cr_put : cr_Lv → Nat → Value → cr_Lv
  | [], _, _ => []
  | _ :: t, 0, v => some v :: t
  | x :: t, 1, v => cr_kl x :: cr_put t 0 v
  | x :: t, i + 2, v => x :: cr_put t (i + 1) v
def cr_put2 : cr_Lv → Nat → Value → cr_Lv
  | [], _, _ => []
  | [_], _, _ => []
  | _ :: _ :: t, 0, v => some v :: none :: t
  | x :: y :: t, 1, v => cr_kl x :: cr_put2 (y :: t) 0 v
  | x :: y :: t, i + 2, v => x :: cr_put2 (y :: t) (i + 1) v
def cr_L (ls : Array Slot) (lv : cr_Lv) : Prop := lv_has ls lv.length (cr_as 0 lv)
def cr_ld : cr_Lv → Nat → (Value → Prop) → Prop
  | [], _, _ => False
  | none :: _, 0, _ => False
  | some v :: _, 0, f => f v
  | _ :: t, i + 1, f => cr_ld t i f
def cr_nf : cr_Lv → (cr_Lv → Prop) → Prop
  | [], f => f []
  | none :: t, f => cr_nf t (fun t' => f (none :: t'))
  | some v :: t, f => cr_nf t (fun t' => f (some v :: t'))
theorem cr_nf_eq : ∀ (lv : cr_Lv) (f : cr_Lv → Prop), cr_nf lv f ↔ f lv
  | [], _ => Iff.rfl
  | none :: t, f => cr_nf_eq t (fun t' => f (none :: t'))
  | some v :: t, f => cr_nf_eq t (fun t' => f (some v :: t'))
theorem cr_ld_sp : ∀ {lv : cr_Lv} {i : Nat} {f : Value → Prop}, cr_ld lv i f → ∃ v, lv[i]? = some (some v) ∧ f v
  | [], _, _, h => False.elim h
  | none :: _, 0, _, h => False.elim h
  | some v :: _, 0, _, h => ⟨v, rfl, h⟩
  | none :: t, i + 1, f, h => by
    obtain ⟨v, h1, h2⟩ := cr_ld_sp (lv := t) (i := i) (f := f) h
    exact ⟨v, by simpa using h1, h2⟩
  | some _ :: t, i + 1, f, h => by
    obtain ⟨v, h1, h2⟩ := cr_ld_sp (lv := t) (i := i) (f := f) h
    exact ⟨v, by simpa using h1, h2⟩
theorem cr_as_in : ∀ (lv : cr_Lv) (b i : Nat) (v : Value), lv[i]? = some (some v) → (b + i, v) ∈ cr_as b lv
  | [], _, _, _, h => by simp at h
  | none :: t, b, 0, v, h => by simp at h
  | some w :: t, b, 0, v, h => by
    simp at h
    subst h
    exact List.mem_cons_self
  | none :: t, b, i + 1, v, h => by
    have h1 := cr_as_in t (b + 1) i v (by simpa using h)
    rw [show b + (i + 1) = b + 1 + i by omega]
    exact h1
  | some w :: t, b, i + 1, v, h => by
    have h1 := cr_as_in t (b + 1) i v (by simpa using h)
    rw [show b + (i + 1) = b + 1 + i by omega]
    exact List.mem_cons_of_mem _ h1
theorem cr_as_of : ∀ (lv : cr_Lv) (b : Nat) (q : Nat × Value), q ∈ cr_as b lv → ∃ i, q.1 = b + i ∧ lv[i]? = some (some q.2)
  | [], _, _, h => by cases h
  | none :: t, b, q, h => by
    obtain ⟨i, h1, h2⟩ := cr_as_of t (b + 1) q h
    exact ⟨i + 1, by omega, by simpa using h2⟩
  | some w :: t, b, q, h => by
    rcases List.mem_cons.mp h with rfl | h
    · exact ⟨0, rfl, rfl⟩
    · obtain ⟨i, h1, h2⟩ := cr_as_of t (b + 1) q h
      exact ⟨i + 1, by omega, by simpa using h2⟩
theorem cr_L.at {ls : Array Slot} {lv : cr_Lv} (h : cr_L ls lv) {i : Nat} {v : Value} (hv : lv[i]? = some (some v)) : ls[i]? = some (.val v) := by
  have h1 := h.2.2 (0 + i, v) (cr_as_in lv 0 i v hv)
  simpa using h1
theorem cr_L.size {ls : Array Slot} {lv : cr_Lv} (h : cr_L ls lv) : ls.size = lv.length := h.1
theorem cr_kl_sp {x : Option Value} {w : Value} (h : cr_kl x = some w) : x = some w ∧ w.category = 1 := by
  cases x with
  | none => simp [cr_kl] at h
  | some v => cases v <;> simp [cr_kl] at h <;> subst h <;> simp [Value.category]
theorem cr_put_len : ∀ (lv : cr_Lv) (i : Nat) (v : Value), (cr_put lv i v).length = lv.length
  | [], _, _ => rfl
  | _ :: t, 0, v => rfl
  | x :: t, 1, v => by simp [cr_put, cr_put_len t 0 v]
  | x :: t, i + 2, v => by simp [cr_put, cr_put_len t (i + 1) v]
theorem cr_put_sp : ∀ (lv : cr_Lv) (i : Nat) (v : Value) (j : Nat) (w : Value), (cr_put lv i v)[j]? = some (some w) → (j = i ∧ w = v) ∨ (lv[j]? = some (some w) ∧ j ≠ i ∧ ¬ (j + 1 = i ∧ w.category = 2))
  | [], _, _, j, w, h => by simp [cr_put] at h
  | x :: t, 0, v, 0, w, h => by
    simp [cr_put] at h
    exact Or.inl ⟨rfl, h.symm⟩
  | x :: t, 0, v, j + 1, w, h => by
    simp [cr_put] at h
    exact Or.inr ⟨by simpa using h, by omega, by omega⟩
  | x :: t, 1, v, 0, w, h => by
    simp [cr_put] at h
    obtain ⟨h1, h2⟩ := cr_kl_sp h
    exact Or.inr ⟨by simp [h1], by omega, by omega⟩
  | x :: t, 1, v, j + 1, w, h => by
    rcases cr_put_sp t 0 v j w (by simpa [cr_put] using h) with ⟨h1, h2⟩ | ⟨h1, h2, h3⟩
    · exact Or.inl ⟨by omega, h2⟩
    · exact Or.inr ⟨by simpa using h1, by omega, by omega⟩
  | x :: t, i + 2, v, 0, w, h => by
    simp [cr_put] at h
    exact Or.inr ⟨by simp [h], by omega, by omega⟩
  | x :: t, i + 2, v, j + 1, w, h => by
    rcases cr_put_sp t (i + 1) v j w (by simpa [cr_put] using h) with ⟨h1, h2⟩ | ⟨h1, h2, h3⟩
    · exact Or.inl ⟨by omega, h2⟩
    · exact Or.inr ⟨by simpa using h1, by omega, by omega⟩
theorem cr_L.put {ls' : Array Slot} {lv : cr_Lv} {i : Nat} {v : Value} (h : lv_has ls' lv.length ((i, v) :: (cr_as 0 lv).filter (fun q => !(q.1 == i) && !(q.1 + 1 == i && q.2.category == 2)))) : cr_L ls' (cr_put lv i v) := by
  refine ⟨by rw [cr_put_len]; exact h.1, h.2.1, fun q hq => ?_⟩
  obtain ⟨j, h1, h2⟩ := cr_as_of _ 0 q hq
  obtain ⟨j', w⟩ := q
  simp only [Nat.zero_add] at h1
  subst h1
  rcases cr_put_sp lv i v _ w h2 with ⟨g1, g2⟩ | ⟨g1, g2, g3⟩
  · subst g1; subst g2
    exact h.2.2 _ List.mem_cons_self
  · refine h.2.2 (_, w) (List.mem_cons_of_mem _ (List.mem_filter.mpr ⟨?_, ?_⟩))
    · have := cr_as_in lv 0 _ w g1
      simpa using this
    · simp only [Bool.and_eq_true, Bool.not_eq_true', beq_eq_false_iff_ne, ne_eq, Bool.and_eq_false_imp, beq_iff_eq]
      exact ⟨g2, fun a b => g3 ⟨a, b⟩⟩
theorem cr_put2_len : ∀ (lv : cr_Lv) (i : Nat) (v : Value), i + 1 < lv.length → (cr_put2 lv i v).length = lv.length
  | [], _, _, h => by simp at h
  | [_], _, _, h => by simp at h
  | _ :: _ :: t, 0, v, _ => rfl
  | x :: y :: t, 1, v, h => by simp [cr_put2, cr_put2_len (y :: t) 0 v (by simpa using h)]
  | x :: y :: t, i + 2, v, h => by
    have h9 := cr_put2_len (y :: t) (i + 1) v (by simp only [List.length_cons] at h ⊢; omega)
    simp only [List.length_cons] at h9
    simp [cr_put2, h9]
theorem cr_put2_sp : ∀ (lv : cr_Lv) (i : Nat) (v : Value) (j : Nat) (w : Value), (cr_put2 lv i v)[j]? = some (some w) → (j = i ∧ w = v) ∨ (lv[j]? = some (some w) ∧ j ≠ i ∧ j ≠ i + 1 ∧ ¬ (j + 1 = i ∧ w.category = 2))
  | [], _, _, j, w, h => by simp [cr_put2] at h
  | [_], _, _, j, w, h => by simp [cr_put2] at h
  | x :: y :: t, 0, v, 0, w, h => by
    simp [cr_put2] at h
    exact Or.inl ⟨rfl, h.symm⟩
  | x :: y :: t, 0, v, 1, w, h => by simp [cr_put2] at h
  | x :: y :: t, 0, v, j + 2, w, h => by
    simp [cr_put2] at h
    exact Or.inr ⟨by simpa using h, by omega, by omega, by omega⟩
  | x :: y :: t, 1, v, 0, w, h => by
    simp [cr_put2] at h
    obtain ⟨h1, h2⟩ := cr_kl_sp h
    exact Or.inr ⟨by simp [h1], by omega, by omega, by omega⟩
  | x :: y :: t, 1, v, j + 1, w, h => by
    rcases cr_put2_sp (y :: t) 0 v j w (by simpa [cr_put2] using h) with ⟨h1, h2⟩ | ⟨h1, h2, h3, h4⟩
    · exact Or.inl ⟨by omega, h2⟩
    · exact Or.inr ⟨by simpa using h1, by omega, by omega, by omega⟩
  | x :: y :: t, i + 2, v, 0, w, h => by
    simp [cr_put2] at h
    exact Or.inr ⟨by simp [h], by omega, by omega, by omega⟩
  | x :: y :: t, i + 2, v, j + 1, w, h => by
    rcases cr_put2_sp (y :: t) (i + 1) v j w (by simpa [cr_put2] using h) with ⟨h1, h2⟩ | ⟨h1, h2, h3, h4⟩
    · exact Or.inl ⟨by omega, h2⟩
    · exact Or.inr ⟨by simpa using h1, by omega, by omega, by omega⟩
theorem cr_L.put2 {ls' : Array Slot} {lv : cr_Lv} {i : Nat} {v : Value} (hi : i + 1 < lv.length) (h : lv_has ls' lv.length ((i, v) :: (cr_as 0 lv).filter (fun q => !(q.1 == i) && (!(q.1 == i + 1) && !(q.1 + 1 == i && q.2.category == 2))))) : cr_L ls' (cr_put2 lv i v) := by
  refine ⟨by rw [cr_put2_len lv i v hi]; exact h.1, h.2.1, fun q hq => ?_⟩
  obtain ⟨j, h1, h2⟩ := cr_as_of _ 0 q hq
  obtain ⟨j', w⟩ := q
  simp only [Nat.zero_add] at h1
  subst h1
  rcases cr_put2_sp lv i v _ w h2 with ⟨g1, g2⟩ | ⟨g1, g2, g3, g4⟩
  · subst g1; subst g2
    exact h.2.2 _ List.mem_cons_self
  · refine h.2.2 (_, w) (List.mem_cons_of_mem _ (List.mem_filter.mpr ⟨?_, ?_⟩))
    · have := cr_as_in lv 0 _ w g1
      simpa using this
    · simp only [Bool.and_eq_true, Bool.not_eq_true', beq_eq_false_iff_ne, ne_eq, Bool.and_eq_false_imp, beq_iff_eq]
      exact ⟨g2, g3, fun a b => g4 ⟨a, b⟩⟩
-- the judgement: from here the method comes to its end, with Q
def cr_G (p : Program) (l : Launch) (e : Env) (R : Room) (s : State) (m : MethodId) (args : Array Value) (below : List Frame) (meth : Method) (c : Code) (lo mc ms : Nat) (Q : cr_Q) : cr_K := fun pc lv st H k n =>
  ∀ (ls : Array Slot) (locs : List Loc), cr_L ls lv → (∀ q ∈ locs, cr_lc lo s q.base) → W p l e R s m args below meth c H locs k n (cr_MQ below lo mc ms Q s) (F0 m pc ls st)
def cr_Snd (p : Program) (l : Launch) (e : Env) (R : Room) (s : State) (m : MethodId) (args : Array Value) (below : List Frame) (meth : Method) (c : Code) (lo mc ms : Nat) (Q : cr_Q) (pc : Nat) (tr : cr_T) : Prop :=
  ∀ (K : cr_K) (lv : cr_Lv) (st : List Value) (H : Heap) (k n : Nat), (∀ pc lv st H k n, K pc lv st H k n → cr_G p l e R s m args below meth c lo mc ms Q pc lv st H k n) → tr K Q lv st H k n → cr_G p l e R s m args below meth c lo mc ms Q pc lv st H k n
-- a table and its run
def cr_lk : List (Nat × cr_T) → Nat → cr_T
  | [], _ => fun _ _ _ _ _ _ _ => False
  | e :: t, pc => cond (Nat.beq e.1 pc) e.2 (cr_lk t pc)
def cr_me : List Nat → Nat → Bool
  | [], _ => false
  | e :: t, pc => cond (Nat.beq e pc) true (cr_me t pc)
def cr_F (tb : List (Nat × cr_T)) (cut : List Nat) (K : cr_K) (Q : cr_Q) : Nat → cr_K
  | 0, pc, lv, st, H, k, n => K pc lv st H k n
  | f + 1, pc, lv, st, H, k, n => cond (cr_me cut pc) K (fun pc lv st H k n => cr_lk tb pc (cr_F tb cut K Q f) Q lv st H k n) pc lv st H k n
/-- the first step is not cut -/
def cr_F1 (tb : List (Nat × cr_T)) (cut : List Nat) (K : cr_K) (Q : cr_Q) (f : Nat) : cr_K := fun pc lv st H k n => cr_lk tb pc (cr_F tb cut K Q f) Q lv st H k n
section CR1
variable {p : Program} {l : Launch} {e : Env} {R : Room} {s : State} {m : MethodId} {args : Array Value} {below : List Frame} {meth : Method} {c : Code} {lo mc ms : Nat} {Q : cr_Q}
variable {cc : ByteArray} {pc nx : Nat}

theorem cr_lk_ok {K : cr_K} {lv : cr_Lv} {st : List Value} {H : Heap} {k n : Nat} (hK : ∀ pc lv st H k n, K pc lv st H k n → cr_G p l e R s m args below meth c lo mc ms Q pc lv st H k n) : ∀ (tb : List (Nat × cr_T)) (_ : ∀ x ∈ tb, cr_Snd p l e R s m args below meth c lo mc ms Q x.1 x.2) (pc : Nat), cr_lk tb pc K Q lv st H k n → cr_G p l e R s m args below meth c lo mc ms Q pc lv st H k n
  | [], _, _, h => False.elim h
  | x :: t, ht, pc, h => by
    unfold cr_lk at h
    cases hb : Nat.beq x.1 pc with
    | true =>
      rw [hb] at h
      have e1 : x.1 = pc := Nat.eq_of_beq_eq_true hb
      subst e1
      exact ht x List.mem_cons_self K lv st H k n hK h
    | false =>
      rw [hb] at h
      exact cr_lk_ok hK t (fun y hy => ht y (List.mem_cons_of_mem _ hy)) pc h
theorem cr_F_ok {tb : List (Nat × cr_T)} {cut : List Nat} {K : cr_K} (ht : ∀ x ∈ tb, cr_Snd p l e R s m args below meth c lo mc ms Q x.1 x.2) (hK : ∀ pc lv st H k n, K pc lv st H k n → cr_G p l e R s m args below meth c lo mc ms Q pc lv st H k n) : ∀ (f pc : Nat) (lv : cr_Lv) (st : List Value) (H : Heap) (k n : Nat), cr_F tb cut K Q f pc lv st H k n → cr_G p l e R s m args below meth c lo mc ms Q pc lv st H k n
  | 0, pc, lv, st, H, k, n, h => hK _ _ _ _ _ _ h
  | f + 1, pc, lv, st, H, k, n, h => by
    unfold cr_F at h
    cases hb : cr_me cut pc with
    | true =>
      rw [hb] at h
      exact hK _ _ _ _ _ _ h
    | false =>
      rw [hb] at h
      exact cr_lk_ok (cr_F_ok ht hK f) tb ht pc h
/-- HOW A PROOF BEGINS: for any K that the judgement gives, the table's run -/
theorem cr_vc {tb : List (Nat × cr_T)} (cut : List Nat) (f : Nat) {pc : Nat} {lv : cr_Lv} {st : List Value} {H : Heap} {k n : Nat} (ht : ∀ x ∈ tb, cr_Snd p l e R s m args below meth c lo mc ms Q x.1 x.2)
    (h : ∀ K : cr_K, (∀ pc lv st H k n, cr_G p l e R s m args below meth c lo mc ms Q pc lv st H k n → K pc lv st H k n) → cr_F1 tb cut K Q f pc lv st H k n) : cr_G p l e R s m args below meth c lo mc ms Q pc lv st H k n :=
  cr_lk_ok (cr_F_ok ht (fun _ _ _ _ _ _ h => h) f) tb ht pc (h _ (fun _ _ _ _ _ _ h => h))

def cr_iload (i nx : Nat) : cr_T := fun K _ lv st H k n => cr_ld lv i (fun v => match v with | .int x => K nx lv (.int x :: st) H k n | _ => False)
theorem cr_iload_n_ok {j : Fin 4} {i : Nat} (hx : p.tables.exec = Jvm.exec) (hb : c.code = cc) (hd : decode cc pc = .ok (.iload_n j, 1)) (hi : (j : Nat) = i) (hn : pc + 1 = nx) : cr_Snd p l e R s m args below meth c lo mc ms Q pc (cr_iload i nx) := by
  subst hn
  intro K lv st H k n hK h ls locs hl hq
  obtain ⟨v, hv, hf⟩ := cr_ld_sp h
  cases v with
  | int x => exact lv_iload_n hx hb hd hi (hl.at hv) (hK _ _ _ _ _ _ hf ls locs hl hq)
  | _ => exact False.elim hf
theorem cr_iload_ok {i : Nat} (hx : p.tables.exec = Jvm.exec) (hb : c.code = cc) (hd : decode cc pc = .ok (.iload i, 2)) (hn : pc + 2 = nx) : cr_Snd p l e R s m args below meth c lo mc ms Q pc (cr_iload i nx) := by
  subst hn
  intro K lv st H k n hK h ls locs hl hq
  obtain ⟨v, hv, hf⟩ := cr_ld_sp h
  cases v with
  | int x => exact lv_iload hx hb hd (hl.at hv) (hK _ _ _ _ _ _ hf ls locs hl hq)
  | _ => exact False.elim hf
def cr_aload (i nx : Nat) : cr_T := fun K _ lv st H k n => cr_ld lv i (fun v => match v with | .ref x => K nx lv (.ref x :: st) H k n | .null => K nx lv (.null :: st) H k n | _ => False)
theorem cr_aload_n_ok {j : Fin 4} {i : Nat} (hx : p.tables.exec = Jvm.exec) (hb : c.code = cc) (hd : decode cc pc = .ok (.aload_n j, 1)) (hi : (j : Nat) = i) (hn : pc + 1 = nx) : cr_Snd p l e R s m args below meth c lo mc ms Q pc (cr_aload i nx) := by
  subst hn
  intro K lv st H k n hK h ls locs hl hq
  obtain ⟨v, hv, hf⟩ := cr_ld_sp h
  cases v with
  | ref x => exact lv_aload_n hx hb hd hi (hl.at hv) (hK _ _ _ _ _ _ hf ls locs hl hq)
  | null => exact lv_aload_nN hx hb hd hi (hl.at hv) (hK _ _ _ _ _ _ hf ls locs hl hq)
  | _ => exact False.elim hf
theorem cr_aload_ok {i : Nat} (hx : p.tables.exec = Jvm.exec) (hb : c.code = cc) (hd : decode cc pc = .ok (.aload i, 2)) (hn : pc + 2 = nx) : cr_Snd p l e R s m args below meth c lo mc ms Q pc (cr_aload i nx) := by
  subst hn
  intro K lv st H k n hK h ls locs hl hq
  obtain ⟨v, hv, hf⟩ := cr_ld_sp h
  cases v with
  | ref x => exact lv_aload hx hb hd (hl.at hv) (hK _ _ _ _ _ _ hf ls locs hl hq)
  | null => exact lv_aloadN hx hb hd (hl.at hv) (hK _ _ _ _ _ _ hf ls locs hl hq)
  | _ => exact False.elim hf
def cr_lload (i nx : Nat) : cr_T := fun K _ lv st H k n => cr_ld lv i (fun v => match v with | .long x => K nx lv (.long x :: st) H k n | _ => False)
theorem cr_lload_n_ok {j : Fin 4} {i : Nat} (hx : p.tables.exec = Jvm.exec) (hb : c.code = cc) (hd : decode cc pc = .ok (.lload_n j, 1)) (hi : (j : Nat) = i) (hn : pc + 1 = nx) : cr_Snd p l e R s m args below meth c lo mc ms Q pc (cr_lload i nx) := by
  subst hn
  intro K lv st H k n hK h ls locs hl hq
  obtain ⟨v, hv, hf⟩ := cr_ld_sp h
  cases v with
  | long x => exact lv_lload_n hx hb hd hi (hl.at hv) (hK _ _ _ _ _ _ hf ls locs hl hq)
  | _ => exact False.elim hf
theorem cr_lload_ok {i : Nat} (hx : p.tables.exec = Jvm.exec) (hb : c.code = cc) (hd : decode cc pc = .ok (.lload i, 2)) (hn : pc + 2 = nx) : cr_Snd p l e R s m args below meth c lo mc ms Q pc (cr_lload i nx) := by
  subst hn
  intro K lv st H k n hK h ls locs hl hq
  obtain ⟨v, hv, hf⟩ := cr_ld_sp h
  cases v with
  | long x => exact lv_lload hx hb hd (hl.at hv) (hK _ _ _ _ _ _ hf ls locs hl hq)
  | _ => exact False.elim hf
def cr_istore (i nx : Nat) : cr_T := fun K _ lv st H k n => match st with | .int x :: r => i < lv.length ∧ cr_nf (cr_put lv i (.int x)) (fun lv' => K nx lv' r H k n) | _ => False
theorem cr_istore_n_ok {j : Fin 4} {i : Nat} (hx : p.tables.exec = Jvm.exec) (hb : c.code = cc) (hd : decode cc pc = .ok (.istore_n j, 1)) (hi : (j : Nat) = i) (hn : pc + 1 = nx) : cr_Snd p l e R s m args below meth c lo mc ms Q pc (cr_istore i nx) := by
  subst hn
  intro K lv st H k n hK h ls locs hl hq
  match st, h with
  | .int x :: r, h => exact lv_istore_n hx hb hd hi hl h.1 rfl (fun ls' hl' => hK _ _ _ _ _ _ ((cr_nf_eq _ _).mp h.2) ls' locs (cr_L.put hl') hq)
theorem cr_istore_ok {i : Nat} (hx : p.tables.exec = Jvm.exec) (hb : c.code = cc) (hd : decode cc pc = .ok (.istore i, 2)) (hn : pc + 2 = nx) : cr_Snd p l e R s m args below meth c lo mc ms Q pc (cr_istore i nx) := by
  subst hn
  intro K lv st H k n hK h ls locs hl hq
  match st, h with
  | .int x :: r, h => exact lv_istore hx hb hd hl h.1 rfl (fun ls' hl' => hK _ _ _ _ _ _ ((cr_nf_eq _ _).mp h.2) ls' locs (cr_L.put hl') hq)
def cr_astore (i nx : Nat) : cr_T := fun K _ lv st H k n => match st with | .ref x :: r => i < lv.length ∧ cr_nf (cr_put lv i (.ref x)) (fun lv' => K nx lv' r H k n) | .null :: r => i < lv.length ∧ cr_nf (cr_put lv i .null) (fun lv' => K nx lv' r H k n) | _ => False
theorem cr_astore_n_ok {j : Fin 4} {i : Nat} (hx : p.tables.exec = Jvm.exec) (hb : c.code = cc) (hd : decode cc pc = .ok (.astore_n j, 1)) (hi : (j : Nat) = i) (hn : pc + 1 = nx) : cr_Snd p l e R s m args below meth c lo mc ms Q pc (cr_astore i nx) := by
  subst hn
  intro K lv st H k n hK h ls locs hl hq
  match st, h with
  | .ref x :: r, h => exact lv_astore_n hx hb hd hi hl h.1 rfl (fun ls' hl' => hK _ _ _ _ _ _ ((cr_nf_eq _ _).mp h.2) ls' locs (cr_L.put hl') hq)
  | .null :: r, h => exact lv_astore_nN hx hb hd hi hl h.1 rfl (fun ls' hl' => hK _ _ _ _ _ _ ((cr_nf_eq _ _).mp h.2) ls' locs (cr_L.put hl') hq)
theorem cr_astore_ok {i : Nat} (hx : p.tables.exec = Jvm.exec) (hb : c.code = cc) (hd : decode cc pc = .ok (.astore i, 2)) (hn : pc + 2 = nx) : cr_Snd p l e R s m args below meth c lo mc ms Q pc (cr_astore i nx) := by
  subst hn
  intro K lv st H k n hK h ls locs hl hq
  match st, h with
  | .ref x :: r, h => exact lv_astore hx hb hd hl h.1 rfl (fun ls' hl' => hK _ _ _ _ _ _ ((cr_nf_eq _ _).mp h.2) ls' locs (cr_L.put hl') hq)
  | .null :: r, h => exact lv_astoreN hx hb hd hl h.1 rfl (fun ls' hl' => hK _ _ _ _ _ _ ((cr_nf_eq _ _).mp h.2) ls' locs (cr_L.put hl') hq)
def cr_lstore (i nx : Nat) : cr_T := fun K _ lv st H k n => match st with | .long x :: r => i + 1 < lv.length ∧ cr_nf (cr_put2 lv i (.long x)) (fun lv' => K nx lv' r H k n) | _ => False
theorem cr_lstore_n_ok {j : Fin 4} {i : Nat} (hx : p.tables.exec = Jvm.exec) (hb : c.code = cc) (hd : decode cc pc = .ok (.lstore_n j, 1)) (hi : (j : Nat) = i) (hn : pc + 1 = nx) : cr_Snd p l e R s m args below meth c lo mc ms Q pc (cr_lstore i nx) := by
  subst hn
  intro K lv st H k n hK h ls locs hl hq
  match st, h with
  | .long x :: r, h => exact lv_lstore_n hx hb hd hi hl h.1 rfl (fun ls' hl' => hK _ _ _ _ _ _ ((cr_nf_eq _ _).mp h.2) ls' locs (cr_L.put2 h.1 hl') hq)
theorem cr_lstore_ok {i : Nat} (hx : p.tables.exec = Jvm.exec) (hb : c.code = cc) (hd : decode cc pc = .ok (.lstore i, 2)) (hn : pc + 2 = nx) : cr_Snd p l e R s m args below meth c lo mc ms Q pc (cr_lstore i nx) := by
  subst hn
  intro K lv st H k n hK h ls locs hl hq
  match st, h with
  | .long x :: r, h => exact lv_lstore hx hb hd hl h.1 rfl (fun ls' hl' => hK _ _ _ _ _ _ ((cr_nf_eq _ _).mp h.2) ls' locs (cr_L.put2 h.1 hl') hq)
def cr_iinc (i : Nat) (z : Int32) (nx : Nat) : cr_T := fun K _ lv st H k n => i < lv.length ∧ cr_ld lv i (fun v => match v with | .int x => cr_nf (cr_put lv i (.int (x + z))) (fun lv' => K nx lv' st H k n) | _ => False)
theorem cr_iinc_ok {i : Nat} {z : Int32} {zi : Int} (hx : p.tables.exec = Jvm.exec) (hb : c.code = cc) (hd : decode cc pc = .ok (.iinc i zi, 3)) (hz : Int32.ofInt zi = z) (hn : pc + 3 = nx) : cr_Snd p l e R s m args below meth c lo mc ms Q pc (cr_iinc i z nx) := by
  subst hn; subst hz
  intro K lv st H k n hK h ls locs hl hq
  obtain ⟨hi, h⟩ := h
  obtain ⟨v, hv, hf⟩ := cr_ld_sp h
  cases v with
  | int x =>
    have hm := cr_as_in lv 0 i (.int x) hv
    rw [Nat.zero_add] at hm
    obtain ⟨k9, hk9⟩ := List.getElem?_of_mem hm
    exact lv_iinc hx hb hd hl (k := k9) hk9 rfl hi rfl (fun ls' hl' => hK _ _ _ _ _ _ ((cr_nf_eq _ _).mp hf) ls' locs (cr_L.put hl') hq)
  | _ => exact False.elim hf
def cr_push (v : Value) (nx : Nat) : cr_T := fun K _ lv st H k n => K nx lv (v :: st) H k n
theorem cr_iconst_ok (hx : p.tables.exec = Jvm.exec) (hb : c.code = cc) {z : Int} {v : Int32} (hd : decode cc pc = .ok (.iconst z, 1)) (hz : Int32.ofInt z = v) (hn : pc + 1 = nx) : cr_Snd p l e R s m args below meth c lo mc ms Q pc (cr_push (.int v) nx) := by
  subst hn
  intro K lv st H k n hK h ls locs hl hq
  exact lv_iconst hx hb hd hz (hK _ _ _ _ _ _ h ls locs hl hq)
theorem cr_bipush_ok (hx : p.tables.exec = Jvm.exec) (hb : c.code = cc) {z : Int} {v : Int32} (hd : decode cc pc = .ok (.bipush z, 2)) (hz : (Int8.ofInt z).toInt32 = v) (hn : pc + 2 = nx) : cr_Snd p l e R s m args below meth c lo mc ms Q pc (cr_push (.int v) nx) := by
  subst hn
  intro K lv st H k n hK h ls locs hl hq
  exact lv_bipush hx hb hd hz (hK _ _ _ _ _ _ h ls locs hl hq)
theorem cr_sipush_ok (hx : p.tables.exec = Jvm.exec) (hb : c.code = cc) {z : Int} {v : Int32} (hd : decode cc pc = .ok (.sipush z, 3)) (hz : (Int16.ofInt z).toInt32 = v) (hn : pc + 3 = nx) : cr_Snd p l e R s m args below meth c lo mc ms Q pc (cr_push (.int v) nx) := by
  subst hn
  intro K lv st H k n hK h ls locs hl hq
  exact lv_sipush hx hb hd hz (hK _ _ _ _ _ _ h ls locs hl hq)
theorem cr_lconst_ok (hx : p.tables.exec = Jvm.exec) (hb : c.code = cc) {z : Fin 2} {v : Int64} (hd : decode cc pc = .ok (.lconst z, 1)) (hz : Int64.ofNat (z : Nat) = v) (hn : pc + 1 = nx) : cr_Snd p l e R s m args below meth c lo mc ms Q pc (cr_push (.long v) nx) := by
  subst hn
  intro K lv st H k n hK h ls locs hl hq
  exact lv_lconst hx hb hd hz (hK _ _ _ _ _ _ h ls locs hl hq)
theorem cr_ldc_ok (hx : p.tables.exec = Jvm.exec) (hb : c.code = cc) {own : String} {index : Nat} {v : Int32} (hown : s.vm.findClass own = some m.cls) (hc : (Jvm.Cond.constant own index v).before args s = true) (hd : decode cc pc = .ok (.ldc index, 2)) (hn : pc + 2 = nx) : cr_Snd p l e R s m args below meth c lo mc ms Q pc (cr_push (.int v) nx) := by
  subst hn
  intro K lv st H k n hK h ls locs hl hq
  exact lv_ldc hx hb hown hc hd (hK _ _ _ _ _ _ h ls locs hl hq)
theorem cr_ldcw_ok (hx : p.tables.exec = Jvm.exec) (hb : c.code = cc) {own : String} {index : Nat} {v : Int32} (hown : s.vm.findClass own = some m.cls) (hc : (Jvm.Cond.constant own index v).before args s = true) (hd : decode cc pc = .ok (.ldc_w index, 3)) (hn : pc + 3 = nx) : cr_Snd p l e R s m args below meth c lo mc ms Q pc (cr_push (.int v) nx) := by
  subst hn
  intro K lv st H k n hK h ls locs hl hq
  exact lv_ldcw hx hb hown hc hd (hK _ _ _ _ _ _ h ls locs hl hq)
theorem cr_null_ok (hx : p.tables.exec = Jvm.exec) (hb : c.code = cc) (hd : decode cc pc = .ok (.aconst_null, 1)) (hn : pc + 1 = nx) : cr_Snd p l e R s m args below meth c lo mc ms Q pc (cr_push .null nx) := by
  subst hn
  intro K lv st H k n hK h ls locs hl hq
  exact lv_null hx hb hd (hK _ _ _ _ _ _ h ls locs hl hq)
def cr_iadd (nx : Nat) : cr_T := fun K _ lv st H k n => match st with | .int y :: .int x :: r => K nx lv (.int (x + y) :: r) H k n | _ => False
theorem cr_iadd_ok (hx : p.tables.exec = Jvm.exec) (hb : c.code = cc) (hd : decode cc pc = .ok (.iadd, 1)) (hn : pc + 1 = nx) : cr_Snd p l e R s m args below meth c lo mc ms Q pc (cr_iadd nx) := by
  subst hn
  intro K lv st H k n hK h ls locs hl hq
  match st, h with
  | .int y :: .int x :: r, h => exact lv_iadd hx hb hd (hK _ _ _ _ _ _ h ls locs hl hq)
def cr_isub (nx : Nat) : cr_T := fun K _ lv st H k n => match st with | .int y :: .int x :: r => K nx lv (.int (x - y) :: r) H k n | _ => False
theorem cr_isub_ok (hx : p.tables.exec = Jvm.exec) (hb : c.code = cc) (hd : decode cc pc = .ok (.isub, 1)) (hn : pc + 1 = nx) : cr_Snd p l e R s m args below meth c lo mc ms Q pc (cr_isub nx) := by
  subst hn
  intro K lv st H k n hK h ls locs hl hq
  match st, h with
  | .int y :: .int x :: r, h => exact lv_isub hx hb hd (hK _ _ _ _ _ _ h ls locs hl hq)
def cr_imul (nx : Nat) : cr_T := fun K _ lv st H k n => match st with | .int y :: .int x :: r => K nx lv (.int (x * y) :: r) H k n | _ => False
theorem cr_imul_ok (hx : p.tables.exec = Jvm.exec) (hb : c.code = cc) (hd : decode cc pc = .ok (.imul, 1)) (hn : pc + 1 = nx) : cr_Snd p l e R s m args below meth c lo mc ms Q pc (cr_imul nx) := by
  subst hn
  intro K lv st H k n hK h ls locs hl hq
  match st, h with
  | .int y :: .int x :: r, h => exact lv_imul hx hb hd (hK _ _ _ _ _ _ h ls locs hl hq)
def cr_iand (nx : Nat) : cr_T := fun K _ lv st H k n => match st with | .int y :: .int x :: r => K nx lv (.int (x &&& y) :: r) H k n | _ => False
theorem cr_iand_ok (hx : p.tables.exec = Jvm.exec) (hb : c.code = cc) (hd : decode cc pc = .ok (.iand, 1)) (hn : pc + 1 = nx) : cr_Snd p l e R s m args below meth c lo mc ms Q pc (cr_iand nx) := by
  subst hn
  intro K lv st H k n hK h ls locs hl hq
  match st, h with
  | .int y :: .int x :: r, h => exact lv_iand hx hb hd (hK _ _ _ _ _ _ h ls locs hl hq)
def cr_ior (nx : Nat) : cr_T := fun K _ lv st H k n => match st with | .int y :: .int x :: r => K nx lv (.int (x ||| y) :: r) H k n | _ => False
theorem cr_ior_ok (hx : p.tables.exec = Jvm.exec) (hb : c.code = cc) (hd : decode cc pc = .ok (.ior, 1)) (hn : pc + 1 = nx) : cr_Snd p l e R s m args below meth c lo mc ms Q pc (cr_ior nx) := by
  subst hn
  intro K lv st H k n hK h ls locs hl hq
  match st, h with
  | .int y :: .int x :: r, h => exact lv_ior hx hb hd (hK _ _ _ _ _ _ h ls locs hl hq)
def cr_ixor (nx : Nat) : cr_T := fun K _ lv st H k n => match st with | .int y :: .int x :: r => K nx lv (.int (x ^^^ y) :: r) H k n | _ => False
theorem cr_ixor_ok (hx : p.tables.exec = Jvm.exec) (hb : c.code = cc) (hd : decode cc pc = .ok (.ixor, 1)) (hn : pc + 1 = nx) : cr_Snd p l e R s m args below meth c lo mc ms Q pc (cr_ixor nx) := by
  subst hn
  intro K lv st H k n hK h ls locs hl hq
  match st, h with
  | .int y :: .int x :: r, h => exact lv_ixor hx hb hd (hK _ _ _ _ _ _ h ls locs hl hq)
def cr_ishl (nx : Nat) : cr_T := fun K _ lv st H k n => match st with | .int y :: .int x :: r => K nx lv (.int (x <<< (y &&& 31)) :: r) H k n | _ => False
theorem cr_ishl_ok (hx : p.tables.exec = Jvm.exec) (hb : c.code = cc) (hd : decode cc pc = .ok (.ishl, 1)) (hn : pc + 1 = nx) : cr_Snd p l e R s m args below meth c lo mc ms Q pc (cr_ishl nx) := by
  subst hn
  intro K lv st H k n hK h ls locs hl hq
  match st, h with
  | .int y :: .int x :: r, h => exact lv_ishl hx hb hd (hK _ _ _ _ _ _ h ls locs hl hq)
def cr_ishr (nx : Nat) : cr_T := fun K _ lv st H k n => match st with | .int y :: .int x :: r => K nx lv (.int (x >>> (y &&& 31)) :: r) H k n | _ => False
theorem cr_ishr_ok (hx : p.tables.exec = Jvm.exec) (hb : c.code = cc) (hd : decode cc pc = .ok (.ishr, 1)) (hn : pc + 1 = nx) : cr_Snd p l e R s m args below meth c lo mc ms Q pc (cr_ishr nx) := by
  subst hn
  intro K lv st H k n hK h ls locs hl hq
  match st, h with
  | .int y :: .int x :: r, h => exact lv_ishr hx hb hd (hK _ _ _ _ _ _ h ls locs hl hq)
def cr_iushr (nx : Nat) : cr_T := fun K _ lv st H k n => match st with | .int y :: .int x :: r => K nx lv (.int (x.toUInt32 >>> (y.toUInt32 &&& Int32.toUInt32 31)).toInt32 :: r) H k n | _ => False
theorem cr_iushr_ok (hx : p.tables.exec = Jvm.exec) (hb : c.code = cc) (hd : decode cc pc = .ok (.iushr, 1)) (hn : pc + 1 = nx) : cr_Snd p l e R s m args below meth c lo mc ms Q pc (cr_iushr nx) := by
  subst hn
  intro K lv st H k n hK h ls locs hl hq
  match st, h with
  | .int y :: .int x :: r, h => exact lv_iushr hx hb hd rfl (hK _ _ _ _ _ _ h ls locs hl hq)
def cr_idiv (nx : Nat) : cr_T := fun K _ lv st H k n => match st with | .int y :: .int x :: r => ¬ y = 0 ∧ K nx lv (.int (x / y) :: r) H k n | _ => False
theorem cr_idiv_ok (hx : p.tables.exec = Jvm.exec) (hb : c.code = cc) (hd : decode cc pc = .ok (.idiv, 1)) (hn : pc + 1 = nx) : cr_Snd p l e R s m args below meth c lo mc ms Q pc (cr_idiv nx) := by
  subst hn
  intro K lv st H k n hK h ls locs hl hq
  match st, h with
  | .int y :: .int x :: r, h => exact lv_idiv hx hb hd h.1 (hK _ _ _ _ _ _ h.2 ls locs hl hq)
def cr_irem (nx : Nat) : cr_T := fun K _ lv st H k n => match st with | .int y :: .int x :: r => ¬ y = 0 ∧ K nx lv (.int (x - x / y * y) :: r) H k n | _ => False
theorem cr_irem_ok (hx : p.tables.exec = Jvm.exec) (hb : c.code = cc) (hd : decode cc pc = .ok (.irem, 1)) (hn : pc + 1 = nx) : cr_Snd p l e R s m args below meth c lo mc ms Q pc (cr_irem nx) := by
  subst hn
  intro K lv st H k n hK h ls locs hl hq
  match st, h with
  | .int y :: .int x :: r, h => exact lv_irem hx hb hd h.1 (hK _ _ _ _ _ _ h.2 ls locs hl hq)
def cr_ladd (nx : Nat) : cr_T := fun K _ lv st H k n => match st with | .long y :: .long x :: r => K nx lv (.long (x + y) :: r) H k n | _ => False
theorem cr_ladd_ok (hx : p.tables.exec = Jvm.exec) (hb : c.code = cc) (hd : decode cc pc = .ok (.ladd, 1)) (hn : pc + 1 = nx) : cr_Snd p l e R s m args below meth c lo mc ms Q pc (cr_ladd nx) := by
  subst hn
  intro K lv st H k n hK h ls locs hl hq
  match st, h with
  | .long y :: .long x :: r, h => exact lv_ladd hx hb hd (hK _ _ _ _ _ _ h ls locs hl hq)
def cr_lsub (nx : Nat) : cr_T := fun K _ lv st H k n => match st with | .long y :: .long x :: r => K nx lv (.long (x - y) :: r) H k n | _ => False
theorem cr_lsub_ok (hx : p.tables.exec = Jvm.exec) (hb : c.code = cc) (hd : decode cc pc = .ok (.lsub, 1)) (hn : pc + 1 = nx) : cr_Snd p l e R s m args below meth c lo mc ms Q pc (cr_lsub nx) := by
  subst hn
  intro K lv st H k n hK h ls locs hl hq
  match st, h with
  | .long y :: .long x :: r, h => exact lv_lsub hx hb hd (hK _ _ _ _ _ _ h ls locs hl hq)
def cr_land (nx : Nat) : cr_T := fun K _ lv st H k n => match st with | .long y :: .long x :: r => K nx lv (.long (x &&& y) :: r) H k n | _ => False
theorem cr_land_ok (hx : p.tables.exec = Jvm.exec) (hb : c.code = cc) (hd : decode cc pc = .ok (.land, 1)) (hn : pc + 1 = nx) : cr_Snd p l e R s m args below meth c lo mc ms Q pc (cr_land nx) := by
  subst hn
  intro K lv st H k n hK h ls locs hl hq
  match st, h with
  | .long y :: .long x :: r, h => exact lv_land hx hb hd (hK _ _ _ _ _ _ h ls locs hl hq)
def cr_lor (nx : Nat) : cr_T := fun K _ lv st H k n => match st with | .long y :: .long x :: r => K nx lv (.long (x ||| y) :: r) H k n | _ => False
theorem cr_lor_ok (hx : p.tables.exec = Jvm.exec) (hb : c.code = cc) (hd : decode cc pc = .ok (.lor, 1)) (hn : pc + 1 = nx) : cr_Snd p l e R s m args below meth c lo mc ms Q pc (cr_lor nx) := by
  subst hn
  intro K lv st H k n hK h ls locs hl hq
  match st, h with
  | .long y :: .long x :: r, h => exact lv_lor hx hb hd (hK _ _ _ _ _ _ h ls locs hl hq)
def cr_lxor (nx : Nat) : cr_T := fun K _ lv st H k n => match st with | .long y :: .long x :: r => K nx lv (.long (x ^^^ y) :: r) H k n | _ => False
theorem cr_lxor_ok (hx : p.tables.exec = Jvm.exec) (hb : c.code = cc) (hd : decode cc pc = .ok (.lxor, 1)) (hn : pc + 1 = nx) : cr_Snd p l e R s m args below meth c lo mc ms Q pc (cr_lxor nx) := by
  subst hn
  intro K lv st H k n hK h ls locs hl hq
  match st, h with
  | .long y :: .long x :: r, h => exact lv_lxor hx hb hd (hK _ _ _ _ _ _ h ls locs hl hq)
def cr_lshl (nx : Nat) : cr_T := fun K _ lv st H k n => match st with | .int y :: .long x :: r => K nx lv (.long (x <<< (y.toInt64 &&& 63)) :: r) H k n | _ => False
theorem cr_lshl_ok (hx : p.tables.exec = Jvm.exec) (hb : c.code = cc) (hd : decode cc pc = .ok (.lshl, 1)) (hn : pc + 1 = nx) : cr_Snd p l e R s m args below meth c lo mc ms Q pc (cr_lshl nx) := by
  subst hn
  intro K lv st H k n hK h ls locs hl hq
  match st, h with
  | .int y :: .long x :: r, h => exact lv_lshl hx hb hd rfl (hK _ _ _ _ _ _ h ls locs hl hq)
def cr_lushr (nx : Nat) : cr_T := fun K _ lv st H k n => match st with | .int y :: .long x :: r => K nx lv (.long (x.toUInt64 >>> (y.toInt64.toUInt64 &&& Int64.toUInt64 63)).toInt64 :: r) H k n | _ => False
theorem cr_lushr_ok (hx : p.tables.exec = Jvm.exec) (hb : c.code = cc) (hd : decode cc pc = .ok (.lushr, 1)) (hn : pc + 1 = nx) : cr_Snd p l e R s m args below meth c lo mc ms Q pc (cr_lushr nx) := by
  subst hn
  intro K lv st H k n hK h ls locs hl hq
  match st, h with
  | .int y :: .long x :: r, h => exact lv_lushr hx hb hd rfl (hK _ _ _ _ _ _ h ls locs hl hq)
def cr_lcmp (nx : Nat) : cr_T := fun K _ lv st H k n => match st with | .long y :: .long x :: r => K nx lv (.int (lg_cmp x y) :: r) H k n | _ => False
theorem cr_lcmp_ok (hx : p.tables.exec = Jvm.exec) (hb : c.code = cc) (hd : decode cc pc = .ok (.lcmp, 1)) (hn : pc + 1 = nx) : cr_Snd p l e R s m args below meth c lo mc ms Q pc (cr_lcmp nx) := by
  subst hn
  intro K lv st H k n hK h ls locs hl hq
  match st, h with
  | .long y :: .long x :: r, h => exact W.lcmp hx hb hd (hK _ _ _ _ _ _ h ls locs hl hq)
def cr_ineg (nx : Nat) : cr_T := fun K _ lv st H k n => match st with | .int x :: r => K nx lv (.int (-x) :: r) H k n | _ => False
theorem cr_ineg_ok (hx : p.tables.exec = Jvm.exec) (hb : c.code = cc) (hd : decode cc pc = .ok (.ineg, 1)) (hn : pc + 1 = nx) : cr_Snd p l e R s m args below meth c lo mc ms Q pc (cr_ineg nx) := by
  subst hn
  intro K lv st H k n hK h ls locs hl hq
  match st, h with
  | .int x :: r, h => exact lv_ineg hx hb hd (hK _ _ _ _ _ _ h ls locs hl hq)
def cr_i2l (nx : Nat) : cr_T := fun K _ lv st H k n => match st with | .int x :: r => K nx lv (.long x.toInt64 :: r) H k n | _ => False
theorem cr_i2l_ok (hx : p.tables.exec = Jvm.exec) (hb : c.code = cc) (hd : decode cc pc = .ok (.i2l, 1)) (hn : pc + 1 = nx) : cr_Snd p l e R s m args below meth c lo mc ms Q pc (cr_i2l nx) := by
  subst hn
  intro K lv st H k n hK h ls locs hl hq
  match st, h with
  | .int x :: r, h => exact lv_i2l hx hb hd rfl (hK _ _ _ _ _ _ h ls locs hl hq)
def cr_l2i (nx : Nat) : cr_T := fun K _ lv st H k n => match st with | .long x :: r => K nx lv (.int x.toInt32 :: r) H k n | _ => False
theorem cr_l2i_ok (hx : p.tables.exec = Jvm.exec) (hb : c.code = cc) (hd : decode cc pc = .ok (.l2i, 1)) (hn : pc + 1 = nx) : cr_Snd p l e R s m args below meth c lo mc ms Q pc (cr_l2i nx) := by
  subst hn
  intro K lv st H k n hK h ls locs hl hq
  match st, h with
  | .long x :: r, h => exact lv_l2i hx hb hd rfl (hK _ _ _ _ _ _ h ls locs hl hq)
def cr_dup (nx : Nat) : cr_T := fun K _ lv st H k n => match st with | a :: r => a.category = 1 ∧ K nx lv (a :: a :: r) H k n | _ => False
theorem cr_dup_ok (hx : p.tables.exec = Jvm.exec) (hb : c.code = cc) (hd : decode cc pc = .ok (.dup, 1)) (hn : pc + 1 = nx) : cr_Snd p l e R s m args below meth c lo mc ms Q pc (cr_dup nx) := by
  subst hn
  intro K lv st H k n hK h ls locs hl hq
  match st, h with
  | a :: r, h => exact lv_dup hx hb hd h.1 (hK _ _ _ _ _ _ h.2 ls locs hl hq)
def cr_pop (nx : Nat) : cr_T := fun K _ lv st H k n => match st with | a :: r => a.category = 1 ∧ K nx lv (r) H k n | _ => False
theorem cr_pop_ok (hx : p.tables.exec = Jvm.exec) (hb : c.code = cc) (hd : decode cc pc = .ok (.pop, 1)) (hn : pc + 1 = nx) : cr_Snd p l e R s m args below meth c lo mc ms Q pc (cr_pop nx) := by
  subst hn
  intro K lv st H k n hK h ls locs hl hq
  match st, h with
  | a :: r, h => exact lv_pop hx hb hd h.1 (hK _ _ _ _ _ _ h.2 ls locs hl hq)
def cr_dup_x1 (nx : Nat) : cr_T := fun K _ lv st H k n => match st with | a :: b :: r => a.category = 1 ∧ b.category = 1 ∧ K nx lv (a :: b :: a :: r) H k n | _ => False
theorem cr_dup_x1_ok (hx : p.tables.exec = Jvm.exec) (hb : c.code = cc) (hd : decode cc pc = .ok (.dup_x1, 1)) (hn : pc + 1 = nx) : cr_Snd p l e R s m args below meth c lo mc ms Q pc (cr_dup_x1 nx) := by
  subst hn
  intro K lv st H k n hK h ls locs hl hq
  match st, h with
  | a :: b :: r, h => exact lv_dup_x1 hx hb hd h.1 h.2.1 (hK _ _ _ _ _ _ h.2.2 ls locs hl hq)
def cr_dup_x2 (nx : Nat) : cr_T := fun K _ lv st H k n => match st with | a :: b :: d :: r => a.category = 1 ∧ b.category = 1 ∧ d.category = 1 ∧ K nx lv (a :: b :: d :: a :: r) H k n | _ => False
theorem cr_dup_x2_ok (hx : p.tables.exec = Jvm.exec) (hb : c.code = cc) (hd : decode cc pc = .ok (.dup_x2, 1)) (hn : pc + 1 = nx) : cr_Snd p l e R s m args below meth c lo mc ms Q pc (cr_dup_x2 nx) := by
  subst hn
  intro K lv st H k n hK h ls locs hl hq
  match st, h with
  | a :: b :: d :: r, h => exact lv_dup_x2 hx hb hd h.1 h.2.1 h.2.2.1 (hK _ _ _ _ _ _ h.2.2.2 ls locs hl hq)
def cr_dup2 (nx : Nat) : cr_T := fun K _ lv st H k n => match st with | a :: b :: r => a.category = 1 ∧ b.category = 1 ∧ K nx lv (a :: b :: a :: b :: r) H k n | _ => False
theorem cr_dup2_ok (hx : p.tables.exec = Jvm.exec) (hb : c.code = cc) (hd : decode cc pc = .ok (.dup2, 1)) (hn : pc + 1 = nx) : cr_Snd p l e R s m args below meth c lo mc ms Q pc (cr_dup2 nx) := by
  subst hn
  intro K lv st H k n hK h ls locs hl hq
  match st, h with
  | a :: b :: r, h => exact lv_dup2_11 hx hb hd h.1 h.2.1 (hK _ _ _ _ _ _ h.2.2 ls locs hl hq)
def cr_dup2l (nx : Nat) : cr_T := fun K _ lv st H k n => match st with | a :: r => a.category = 2 ∧ K nx lv (a :: a :: r) H k n | _ => False
theorem cr_dup2l_ok (hx : p.tables.exec = Jvm.exec) (hb : c.code = cc) (hd : decode cc pc = .ok (.dup2, 1)) (hn : pc + 1 = nx) : cr_Snd p l e R s m args below meth c lo mc ms Q pc (cr_dup2l nx) := by
  subst hn
  intro K lv st H k n hK h ls locs hl hq
  match st, h with
  | a :: r, h => exact lv_dup2_2 hx hb hd h.1 (hK _ _ _ _ _ _ h.2 ls locs hl hq)
def cr_pop2l (nx : Nat) : cr_T := fun K _ lv st H k n => match st with | a :: r => a.category = 2 ∧ K nx lv (r) H k n | _ => False
theorem cr_pop2l_ok (hx : p.tables.exec = Jvm.exec) (hb : c.code = cc) (hd : decode cc pc = .ok (.pop2, 1)) (hn : pc + 1 = nx) : cr_Snd p l e R s m args below meth c lo mc ms Q pc (cr_pop2l nx) := by
  subst hn
  intro K lv st H k n hK h ls locs hl hq
  match st, h with
  | a :: r, h => exact lv_pop2_2 hx hb hd h.1 (hK _ _ _ _ _ _ h.2 ls locs hl hq)
def cr_ifeq (t nx : Nat) : cr_T := fun K _ lv st H k n => match st with | .int x :: r => (x = 0 → K t lv r H k n) ∧ (¬ x = 0 → K nx lv r H k n) | _ => False
theorem cr_ifeq_ok {off : Int} {t : Nat} (hx : p.tables.exec = Jvm.exec) (hb : c.code = cc) (hd : decode cc pc = .ok (.ifCond .eq off, 3)) (ht : (pc : Int) + off = (t : Int)) (hn : pc + 3 = nx) : cr_Snd p l e R s m args below meth c lo mc ms Q pc (cr_ifeq t nx) := by
  subst hn
  intro K lv st H k n hK h ls locs hl hq
  match st, h with
  | .int x :: r, h => exact lv_if_eq hx hb hd ht (fun z => hK _ _ _ _ _ _ (h.1 z) ls locs hl hq) (fun z => hK _ _ _ _ _ _ (h.2 z) ls locs hl hq)
def cr_iceq (t nx : Nat) : cr_T := fun K _ lv st H k n => match st with | .int y :: .int x :: r => (x = y → K t lv r H k n) ∧ (¬ x = y → K nx lv r H k n) | _ => False
theorem cr_iceq_ok {off : Int} {t : Nat} (hx : p.tables.exec = Jvm.exec) (hb : c.code = cc) (hd : decode cc pc = .ok (.if_icmp .eq off, 3)) (ht : (pc : Int) + off = (t : Int)) (hn : pc + 3 = nx) : cr_Snd p l e R s m args below meth c lo mc ms Q pc (cr_iceq t nx) := by
  subst hn
  intro K lv st H k n hK h ls locs hl hq
  match st, h with
  | .int y :: .int x :: r, h => exact lv_icmp_eq hx hb hd ht (fun z => hK _ _ _ _ _ _ (h.1 z) ls locs hl hq) (fun z => hK _ _ _ _ _ _ (h.2 z) ls locs hl hq)
def cr_iflt (t nx : Nat) : cr_T := fun K _ lv st H k n => match st with | .int x :: r => (x < 0 → K t lv r H k n) ∧ (¬ x < 0 → K nx lv r H k n) | _ => False
theorem cr_iflt_ok {off : Int} {t : Nat} (hx : p.tables.exec = Jvm.exec) (hb : c.code = cc) (hd : decode cc pc = .ok (.ifCond .lt off, 3)) (ht : (pc : Int) + off = (t : Int)) (hn : pc + 3 = nx) : cr_Snd p l e R s m args below meth c lo mc ms Q pc (cr_iflt t nx) := by
  subst hn
  intro K lv st H k n hK h ls locs hl hq
  match st, h with
  | .int x :: r, h => exact lv_if_lt hx hb hd ht (fun z => hK _ _ _ _ _ _ (h.1 z) ls locs hl hq) (fun z => hK _ _ _ _ _ _ (h.2 z) ls locs hl hq)
def cr_iclt (t nx : Nat) : cr_T := fun K _ lv st H k n => match st with | .int y :: .int x :: r => (x < y → K t lv r H k n) ∧ (¬ x < y → K nx lv r H k n) | _ => False
theorem cr_iclt_ok {off : Int} {t : Nat} (hx : p.tables.exec = Jvm.exec) (hb : c.code = cc) (hd : decode cc pc = .ok (.if_icmp .lt off, 3)) (ht : (pc : Int) + off = (t : Int)) (hn : pc + 3 = nx) : cr_Snd p l e R s m args below meth c lo mc ms Q pc (cr_iclt t nx) := by
  subst hn
  intro K lv st H k n hK h ls locs hl hq
  match st, h with
  | .int y :: .int x :: r, h => exact lv_icmp_lt hx hb hd ht (fun z => hK _ _ _ _ _ _ (h.1 z) ls locs hl hq) (fun z => hK _ _ _ _ _ _ (h.2 z) ls locs hl hq)
def cr_ifge (t nx : Nat) : cr_T := fun K _ lv st H k n => match st with | .int x :: r => (0 ≤ x → K t lv r H k n) ∧ (¬ 0 ≤ x → K nx lv r H k n) | _ => False
theorem cr_ifge_ok {off : Int} {t : Nat} (hx : p.tables.exec = Jvm.exec) (hb : c.code = cc) (hd : decode cc pc = .ok (.ifCond .ge off, 3)) (ht : (pc : Int) + off = (t : Int)) (hn : pc + 3 = nx) : cr_Snd p l e R s m args below meth c lo mc ms Q pc (cr_ifge t nx) := by
  subst hn
  intro K lv st H k n hK h ls locs hl hq
  match st, h with
  | .int x :: r, h => exact lv_if_ge hx hb hd ht (fun z => hK _ _ _ _ _ _ (h.1 z) ls locs hl hq) (fun z => hK _ _ _ _ _ _ (h.2 z) ls locs hl hq)
def cr_icge (t nx : Nat) : cr_T := fun K _ lv st H k n => match st with | .int y :: .int x :: r => (y ≤ x → K t lv r H k n) ∧ (¬ y ≤ x → K nx lv r H k n) | _ => False
theorem cr_icge_ok {off : Int} {t : Nat} (hx : p.tables.exec = Jvm.exec) (hb : c.code = cc) (hd : decode cc pc = .ok (.if_icmp .ge off, 3)) (ht : (pc : Int) + off = (t : Int)) (hn : pc + 3 = nx) : cr_Snd p l e R s m args below meth c lo mc ms Q pc (cr_icge t nx) := by
  subst hn
  intro K lv st H k n hK h ls locs hl hq
  match st, h with
  | .int y :: .int x :: r, h => exact lv_icmp_ge hx hb hd ht (fun z => hK _ _ _ _ _ _ (h.1 z) ls locs hl hq) (fun z => hK _ _ _ _ _ _ (h.2 z) ls locs hl hq)
def cr_ifgt (t nx : Nat) : cr_T := fun K _ lv st H k n => match st with | .int x :: r => (0 < x → K t lv r H k n) ∧ (¬ 0 < x → K nx lv r H k n) | _ => False
theorem cr_ifgt_ok {off : Int} {t : Nat} (hx : p.tables.exec = Jvm.exec) (hb : c.code = cc) (hd : decode cc pc = .ok (.ifCond .gt off, 3)) (ht : (pc : Int) + off = (t : Int)) (hn : pc + 3 = nx) : cr_Snd p l e R s m args below meth c lo mc ms Q pc (cr_ifgt t nx) := by
  subst hn
  intro K lv st H k n hK h ls locs hl hq
  match st, h with
  | .int x :: r, h => exact lv_if_gt hx hb hd ht (fun z => hK _ _ _ _ _ _ (h.1 z) ls locs hl hq) (fun z => hK _ _ _ _ _ _ (h.2 z) ls locs hl hq)
def cr_icgt (t nx : Nat) : cr_T := fun K _ lv st H k n => match st with | .int y :: .int x :: r => (y < x → K t lv r H k n) ∧ (¬ y < x → K nx lv r H k n) | _ => False
theorem cr_icgt_ok {off : Int} {t : Nat} (hx : p.tables.exec = Jvm.exec) (hb : c.code = cc) (hd : decode cc pc = .ok (.if_icmp .gt off, 3)) (ht : (pc : Int) + off = (t : Int)) (hn : pc + 3 = nx) : cr_Snd p l e R s m args below meth c lo mc ms Q pc (cr_icgt t nx) := by
  subst hn
  intro K lv st H k n hK h ls locs hl hq
  match st, h with
  | .int y :: .int x :: r, h => exact lv_icmp_gt hx hb hd ht (fun z => hK _ _ _ _ _ _ (h.1 z) ls locs hl hq) (fun z => hK _ _ _ _ _ _ (h.2 z) ls locs hl hq)
def cr_ifle (t nx : Nat) : cr_T := fun K _ lv st H k n => match st with | .int x :: r => (x ≤ 0 → K t lv r H k n) ∧ (¬ x ≤ 0 → K nx lv r H k n) | _ => False
theorem cr_ifle_ok {off : Int} {t : Nat} (hx : p.tables.exec = Jvm.exec) (hb : c.code = cc) (hd : decode cc pc = .ok (.ifCond .le off, 3)) (ht : (pc : Int) + off = (t : Int)) (hn : pc + 3 = nx) : cr_Snd p l e R s m args below meth c lo mc ms Q pc (cr_ifle t nx) := by
  subst hn
  intro K lv st H k n hK h ls locs hl hq
  match st, h with
  | .int x :: r, h => exact lv_if_le hx hb hd ht (fun z => hK _ _ _ _ _ _ (h.1 z) ls locs hl hq) (fun z => hK _ _ _ _ _ _ (h.2 z) ls locs hl hq)
def cr_icle (t nx : Nat) : cr_T := fun K _ lv st H k n => match st with | .int y :: .int x :: r => (x ≤ y → K t lv r H k n) ∧ (¬ x ≤ y → K nx lv r H k n) | _ => False
theorem cr_icle_ok {off : Int} {t : Nat} (hx : p.tables.exec = Jvm.exec) (hb : c.code = cc) (hd : decode cc pc = .ok (.if_icmp .le off, 3)) (ht : (pc : Int) + off = (t : Int)) (hn : pc + 3 = nx) : cr_Snd p l e R s m args below meth c lo mc ms Q pc (cr_icle t nx) := by
  subst hn
  intro K lv st H k n hK h ls locs hl hq
  match st, h with
  | .int y :: .int x :: r, h => exact lv_icmp_le hx hb hd ht (fun z => hK _ _ _ _ _ _ (h.1 z) ls locs hl hq) (fun z => hK _ _ _ _ _ _ (h.2 z) ls locs hl hq)
def cr_ifne (t nx : Nat) : cr_T := fun K _ lv st H k n => match st with | .int x :: r => (¬ x = 0 → K t lv r H k n) ∧ (x = 0 → K nx lv r H k n) | _ => False
theorem cr_ifne_ok {off : Int} {t : Nat} (hx : p.tables.exec = Jvm.exec) (hb : c.code = cc) (hd : decode cc pc = .ok (.ifCond .ne off, 3)) (ht : (pc : Int) + off = (t : Int)) (hn : pc + 3 = nx) : cr_Snd p l e R s m args below meth c lo mc ms Q pc (cr_ifne t nx) := by
  subst hn
  intro K lv st H k n hK h ls locs hl hq
  match st, h with
  | .int x :: r, h => exact lv_if_ne hx hb hd ht (fun z => hK _ _ _ _ _ _ (h.1 z) ls locs hl hq) (fun z => hK _ _ _ _ _ _ (h.2 z) ls locs hl hq)
def cr_icne (t nx : Nat) : cr_T := fun K _ lv st H k n => match st with | .int y :: .int x :: r => (¬ x = y → K t lv r H k n) ∧ (x = y → K nx lv r H k n) | _ => False
theorem cr_icne_ok {off : Int} {t : Nat} (hx : p.tables.exec = Jvm.exec) (hb : c.code = cc) (hd : decode cc pc = .ok (.if_icmp .ne off, 3)) (ht : (pc : Int) + off = (t : Int)) (hn : pc + 3 = nx) : cr_Snd p l e R s m args below meth c lo mc ms Q pc (cr_icne t nx) := by
  subst hn
  intro K lv st H k n hK h ls locs hl hq
  match st, h with
  | .int y :: .int x :: r, h => exact lv_icmp_ne hx hb hd ht (fun z => hK _ _ _ _ _ _ (h.1 z) ls locs hl hq) (fun z => hK _ _ _ _ _ _ (h.2 z) ls locs hl hq)
def cr_goto (t : Nat) : cr_T := fun K _ lv st H k n => K t lv st H k n
theorem cr_goto_ok {off : Int} {t : Nat} (hx : p.tables.exec = Jvm.exec) (hb : c.code = cc) (hd : decode cc pc = .ok (.goto off, 3)) (ht : (pc : Int) + off = (t : Int)) : cr_Snd p l e R s m args below meth c lo mc ms Q pc (cr_goto t) := by
  intro K lv st H k n hK h ls locs hl hq
  exact lv_goto hx hb hd ht (hK _ _ _ _ _ _ h ls locs hl hq)
def cr_acne (t nx : Nat) : cr_T := fun K _ lv st H k n => match st with | .ref y :: .ref x :: r => (¬ x = y → K t lv r H k n) ∧ (x = y → K nx lv r H k n) | _ => False
theorem cr_acne_ok {off : Int} {t : Nat} (hx : p.tables.exec = Jvm.exec) (hb : c.code = cc) (hd : decode cc pc = .ok (.if_acmp .ne off, 3)) (ht : (pc : Int) + off = (t : Int)) (hn : pc + 3 = nx) : cr_Snd p l e R s m args below meth c lo mc ms Q pc (cr_acne t nx) := by
  subst hn
  intro K lv st H k n hK h ls locs hl hq
  match st, h with
  | .ref y :: .ref x :: r, h => exact lv_acmp_ne (rx := some x) (ry := some y) hx hb hd ht (fun z => hK _ _ _ _ _ _ (h.1 (fun q => z (by rw [q]))) ls locs hl hq) (fun z => hK _ _ _ _ _ _ (h.2 (Option.some.inj z)) ls locs hl hq)
def cr_aceq (t nx : Nat) : cr_T := fun K _ lv st H k n => match st with | .ref y :: .ref x :: r => (x = y → K t lv r H k n) ∧ (¬ x = y → K nx lv r H k n) | _ => False
theorem cr_aceq_ok {off : Int} {t : Nat} (hx : p.tables.exec = Jvm.exec) (hb : c.code = cc) (hd : decode cc pc = .ok (.if_acmp .eq off, 3)) (ht : (pc : Int) + off = (t : Int)) (hn : pc + 3 = nx) : cr_Snd p l e R s m args below meth c lo mc ms Q pc (cr_aceq t nx) := by
  subst hn
  intro K lv st H k n hK h ls locs hl hq
  match st, h with
  | .ref y :: .ref x :: r, h => exact lv_acmp_eq (rx := some x) (ry := some y) hx hb hd ht (fun z => hK _ _ _ _ _ _ (h.1 (Option.some.inj z)) ls locs hl hq) (fun z => hK _ _ _ _ _ _ (h.2 (fun q => z (by rw [q]))) ls locs hl hq)
def cr_ifnull (t nx : Nat) : cr_T := fun K _ lv st H k n => match st with | .ref _ :: r => K nx lv r H k n | .null :: r => K t lv r H k n | _ => False
theorem cr_ifnull_ok {off : Int} {t : Nat} (hx : p.tables.exec = Jvm.exec) (hb : c.code = cc) (hd : decode cc pc = .ok (.ifnull off, 3)) (ht : (pc : Int) + off = (t : Int)) (hn : pc + 3 = nx) : cr_Snd p l e R s m args below meth c lo mc ms Q pc (cr_ifnull t nx) := by
  subst hn
  intro K lv st H k n hK h ls locs hl hq
  match st, h with
  | .ref x :: r, h => exact lv_ifnull hx hb hd (hK _ _ _ _ _ _ h ls locs hl hq)
  | .null :: r, h => exact lv_ifnullN hx hb hd ht (hK _ _ _ _ _ _ h ls locs hl hq)
def cr_ifnonnull (t nx : Nat) : cr_T := fun K _ lv st H k n => match st with | .ref _ :: r => K t lv r H k n | .null :: r => K nx lv r H k n | _ => False
theorem cr_ifnonnull_ok {off : Int} {t : Nat} (hx : p.tables.exec = Jvm.exec) (hb : c.code = cc) (hd : decode cc pc = .ok (.ifnonnull off, 3)) (ht : (pc : Int) + off = (t : Int)) (hn : pc + 3 = nx) : cr_Snd p l e R s m args below meth c lo mc ms Q pc (cr_ifnonnull t nx) := by
  subst hn
  intro K lv st H k n hK h ls locs hl hq
  match st, h with
  | .ref x :: r, h => exact lv_ifnonnull hx hb hd ht (hK _ _ _ _ _ _ h ls locs hl hq)
  | .null :: r, h => exact lv_ifnonnullN hx hb hd (hK _ _ _ _ _ _ h ls locs hl hq)
end CR1
end
section
/-! THE LIGHT MACHINE, its heap: fields, arrays, new cells, returns. A cell is said by the kit's va_at; 'cr_Up' one cell changed, 'cr_Nw' one cell new. -/
def cr_nth : List Value → Nat → (Value → Prop) → Prop
  | [], _, _ => False
  | v :: _, 0, f => f v
  | _ :: t, i + 1, f => cr_nth t i f
theorem cr_nth_sp : ∀ {fs : List Value} {i : Nat} {f : Value → Prop}, cr_nth fs i f → ∃ v, fs[i]? = some v ∧ f v
  | [], _, _, h => False.elim h
  | v :: _, 0, _, h => ⟨v, rfl, h⟩
  | _ :: t, i + 1, f, h => by
    obtain ⟨v, h1, h2⟩ := cr_nth_sp (fs := t) (i := i) (f := f) h
    exact ⟨v, by simpa using h1, h2⟩
/-- a field list with one place changed -/
def cr_sn : List Value → Nat → Value → (List Value → Prop) → Prop
  | [], _, _, _ => False
  | _ :: t, 0, v, f => f (v :: t)
  | x :: t, i + 1, v, f => cr_sn t i v (fun t' => f (x :: t'))
theorem cr_sn_sp : ∀ {fs : List Value} {i : Nat} {v : Value} {f : List Value → Prop}, cr_sn fs i v f → i < fs.length ∧ f (fs.set i v)
  | [], _, _, _, h => False.elim h
  | _ :: _, 0, _, _, h => ⟨by simp, h⟩
  | x :: t, i + 1, v, f, h => by
    obtain ⟨h1, h2⟩ := cr_sn_sp (fs := t) (i := i) (v := v) (f := fun t' => f (x :: t')) h
    exact ⟨by simpa using h1, by simpa using h2⟩
def cr_Up (D : va_G) (cl : List vw_C) (H : Heap) (a : Nat) (x : va_E) (H' : Heap) : Prop := H'.size = H.size ∧ va_at D cl (a, x) H' ∧ ∀ q : Nat, q ≠ a → H'[q]? = H[q]?
def cr_Nw (D : va_G) (cl : List vw_C) (lo : Nat) (H : Heap) (q : Nat) (x : va_E) (H' : Heap) : Prop := q = H.size ∧ lo ≤ q ∧ H'.size = H.size + 1 ∧ va_at D cl (q, x) H' ∧ ∀ y : Nat, y < H.size → H'[y]? = H[y]?
def cr_fit (ty : FieldType) (v : Value) : Prop := narrow ty v = v ∧ fits ty v = true
section CR2
variable {p : Program} {l : Launch} {e : Env} {R : Room} {s : State} {m : MethodId} {args : Array Value} {below : List Frame} {meth : Method} {c : Code} {lo mc ms : Nat} {Q : cr_Q}
variable {cc : ByteArray} {pc nx : Nat} {D : va_G} {cl : List vw_C} {tys : List (ClassId × FieldType)}
variable {H : Heap} {locs : List Loc} {k n : Nat} {g : JFrame}
theorem cr_W_ret (hk : k ≤ mc) (hn : n ≤ ms) (h : W p l e R s m args below meth c H locs k n (MQ below (fun _ st o t => cr_O Q st o t) args s k n (cr_lc lo s)) g) : W p l e R s m args below meth c H locs k n (cr_MQ below lo mc ms Q s) g := by
  intro T hT X
  obtain ⟨t, a, o, b1, b2, b3, L, b4, b5⟩ := h T hT X
  exact ⟨t, a, o, b1, b2, b3, L, ⟨b4.2.1, b4.2.2.mono hk hn⟩, b5⟩
theorem cr_W_size {Qw : State → Prop} (h : s.heap.size ≤ H.size → W p l e R s m args below meth c H locs k n Qw g) : W p l e R s m args below meth c H locs k n Qw g := by
  intro T hT X
  have h2 : s.heap.size ≤ T.heap.size := X.same.2.1
  exact h (by rw [← hT]; exact h2) T hT X
/-- an object that is no statics' cell now was none before -/
theorem cr_W_old {Qw : State → Prop} {a : Nat} {cell : Cell} (hc : H[a]? = some cell) (hv : cell.vm.isStatics = false) (h : (∀ c0 : Cell, s.heap[a]? = some c0 → c0.vm.isStatics = false) → W p l e R s m args below meth c H locs k n Qw g) : W p l e R s m args below meth c H locs k n Qw g := by
  intro T hT X
  refine h (fun c0 h0 => ?_) T hT X
  obtain ⟨c', h1, h2, -⟩ := X.same.2.2.2.2.2 a c0 h0
  have h3 : T.heap[a]? = some c' := h1
  rw [hT, hc] at h3
  cases h3
  have h4 : cell.vm = c0.vm := by rw [h2]
  rw [← h4]
  exact hv
theorem cr_locs1 {a i : Nat} (hq : ∀ q ∈ locs, cr_lc lo s q.base) (ha : cr_lc lo s a) : ∀ q ∈ locs ++ [(⟨a, i⟩ : Loc)], cr_lc lo s q.base := by
  intro q h
  rcases List.mem_append.mp h with h | h
  · exact hq q h
  · rw [List.mem_singleton.mp h]
    exact ha
-- returns
def cr_iret (mc ms : Nat) : cr_T := fun _ Q _ st H k n => match st with | [.int v] => k ≤ mc ∧ n ≤ ms ∧ Q (.inl (some (.int v))) H | _ => False
theorem cr_iret_ok (hx : p.tables.exec = Jvm.exec) (hb : c.code = cc) (hr : meth.sig.returnType = some .int) (hlocks : meth.locks = false) (hd : decode cc pc = .ok (.ireturn, 1)) : cr_Snd p l e R s m args below meth c lo mc ms Q pc (cr_iret mc ms) := by
  intro K lv st H k n hK h ls locs hl hq
  match st, h with
  | [.int v], h => exact cr_W_ret h.1 h.2.1 (W.iret hx hb hr (fun t ht _ => Or.inl ⟨_, rfl, by rw [ht]; exact h.2.2⟩) hq hd)
def cr_zret (mc ms : Nat) (ty : FieldType) : cr_T := fun _ Q _ st H k n => match st with | [.int v] => narrow ty (.int v) = .int v ∧ k ≤ mc ∧ n ≤ ms ∧ Q (.inl (some (.int v))) H | _ => False
theorem cr_zret_ok {ty : FieldType} (hx : p.tables.exec = Jvm.exec) (hb : c.code = cc) (hr : meth.sig.returnType = some ty) (hlocks : meth.locks = false) (hd : decode cc pc = .ok (.ireturn, 1)) : cr_Snd p l e R s m args below meth c lo mc ms Q pc (cr_zret mc ms ty) := by
  intro K lv st H k n hK h ls locs hl hq
  match st, h with
  | [.int v], h => exact cr_W_ret h.2.1 h.2.2.1 (W.zret hx hb hr h.1 (fun t ht _ => Or.inl ⟨_, rfl, by rw [ht]; exact h.2.2.2⟩) hq hd)
def cr_lret (mc ms : Nat) : cr_T := fun _ Q _ st H k n => match st with | [.long v] => k ≤ mc ∧ n ≤ ms ∧ Q (.inl (some (.long v))) H | _ => False
theorem cr_lret_ok (hx : p.tables.exec = Jvm.exec) (hb : c.code = cc) (hr : meth.sig.returnType = some .long) (hlocks : meth.locks = false) (hd : decode cc pc = .ok (.lreturn, 1)) : cr_Snd p l e R s m args below meth c lo mc ms Q pc (cr_lret mc ms) := by
  intro K lv st H k n hK h ls locs hl hq
  match st, h with
  | [.long v], h => exact cr_W_ret h.1 h.2.1 (W.lret hx hb hr (fun t ht _ => Or.inl ⟨_, rfl, by rw [ht]; exact h.2.2⟩) hq hd)
def cr_aret (mc ms : Nat) : cr_T := fun _ Q _ st H k n => match st with | [.ref a] => k ≤ mc ∧ n ≤ ms ∧ Q (.inl (some (.ref a))) H | [.null] => k ≤ mc ∧ n ≤ ms ∧ Q (.inl (some .null)) H | _ => False
theorem cr_aret_ok {rt : FieldType} (hx : p.tables.exec = Jvm.exec) (hb : c.code = cc) (hr : meth.sig.returnType = some rt) (hrt : (∃ n, rt = .object n) ∨ ∃ t, rt = .array t) (hlocks : meth.locks = false) (hd : decode cc pc = .ok (.areturn, 1)) : cr_Snd p l e R s m args below meth c lo mc ms Q pc (cr_aret mc ms) := by
  intro K lv st H k n hK h ls locs hl hq
  match st, h with
  | [.ref a], h => exact cr_W_ret h.1 h.2.1 (W.aret hx hb hr hrt (Or.inr ⟨a, rfl⟩) (fun t ht _ => Or.inl ⟨_, rfl, by rw [ht]; exact h.2.2⟩) hq hd)
  | [.null], h => exact cr_W_ret h.1 h.2.1 (W.aret hx hb hr hrt (Or.inl rfl) (fun t ht _ => Or.inl ⟨_, rfl, by rw [ht]; exact h.2.2⟩) hq hd)
def cr_vret (mc ms : Nat) : cr_T := fun _ Q _ st H k n => match st with | [] => k ≤ mc ∧ n ≤ ms ∧ Q (.inl none) H | _ => False
theorem cr_vret_ok (hx : p.tables.exec = Jvm.exec) (hb : c.code = cc) (hr : meth.sig.returnType = none) (hlocks : meth.locks = false) (hd : decode cc pc = .ok (.return_, 1)) : cr_Snd p l e R s m args below meth c lo mc ms Q pc (cr_vret mc ms) := by
  intro K lv st H k n hK h ls locs hl hq
  match st, h with
  | [], h => exact cr_W_ret h.1 h.2.1 (W.vret hx hb hr (fun t ht _ => Or.inl ⟨_, rfl, by rw [ht]; exact h.2.2⟩) hq hd)
-- fields
def cr_getf (D : va_G) (cl : List vw_C) (ci kf nx : Nat) : cr_T := fun K _ lv st H k n => match st with
  | .ref a :: r => ∃ fs, va_at D cl (a, .inr (ci, fs)) H ∧ cr_nth fs kf (fun v => K nx lv (v :: r) H k n)
  | _ => False
theorem cr_one {x : Nat × va_E} (h : va_at D cl x H) : va_P D cl [x] H := by
  intro k q hk
  match k, hk with
  | 0, hk => cases hk; exact h
  | k + 1, hk => simp at hk
theorem cr_getf_ok {own ref C : String} {T : u_T} {N ci kf index : Nat} {Ts : List Cond} (hx : p.tables.exec = Jvm.exec) (hb : c.code = cc) (hts : ∀ w ∈ Ts, w.before args s = true) (hin : ∀ w ∈ u_ws C T N, w ∈ Ts) (hown : s.vm.findClass own = some m.cls) (hK : va_K D cl tys s) (hc : cl[ci]? = some (C, T, N)) (hk : kf < N)
    (hlink : (Cond.fieldLink own index ref (T kf).2.1 (T kf).2.2.1).before args s = true) (hsame : ∀ x, s.fieldFound? (T kf).1 (T kf).2.1 (T kf).2.2.1 = some x → s.fieldFound? ref (T kf).2.1 (T kf).2.2.1 = some x) (hd : decode cc pc = .ok (.getfield index, 3)) (hn : pc + 3 = nx) : cr_Snd p l e R s m args below meth c lo mc ms Q pc (cr_getf D cl ci kf nx) := by
  subst hn
  intro K lv st H k n hKK h ls locs hl hq
  match st, h with
  | .ref a :: r, ⟨fs, h1, h2⟩ =>
    obtain ⟨v, h3, h4⟩ := cr_nth_sp h2
    exact va_get hx hb hts hin hown hK (cr_one h1) 0 rfl hc kf hk hlink hsame h3 hd (hKK _ _ _ _ _ _ h4 ls locs hl hq)
theorem cr_getfN_ok {own ref C host : String} {T : u_T} {N ci kf index : Nat} {Ts : List Cond} (hx : p.tables.exec = Jvm.exec) (hb : c.code = cc) (hts : ∀ w ∈ Ts, w.before args s = true) (hin : ∀ w ∈ u_ws C T N, w ∈ Ts) (hown : s.vm.findClass own = some m.cls) (hK : va_K D cl tys s) (hc : cl[ci]? = some (C, T, N)) (hk : kf < N)
    (hlink : (Cond.fieldLinkNest own index ref (T kf).2.1 (T kf).2.2.1 host).before args s = true) (hsame : ∀ x, s.fieldFound? (T kf).1 (T kf).2.1 (T kf).2.2.1 = some x → s.fieldFound? ref (T kf).2.1 (T kf).2.2.1 = some x) (hd : decode cc pc = .ok (.getfield index, 3)) (hn : pc + 3 = nx) : cr_Snd p l e R s m args below meth c lo mc ms Q pc (cr_getf D cl ci kf nx) := by
  subst hn
  intro K lv st H k n hKK h ls locs hl hq
  match st, h with
  | .ref a :: r, ⟨fs, h1, h2⟩ =>
    obtain ⟨v, h3, h4⟩ := cr_nth_sp h2
    exact va_getN hx hb hts hin hown hK (cr_one h1) 0 rfl hc kf hk hlink hsame h3 hd (hKK _ _ _ _ _ _ h4 ls locs hl hq)
def cr_putf (D : va_G) (cl : List vw_C) (lo : Nat) (ci kf : Nat) (ty : FieldType) (nx : Nat) : cr_T := fun K _ lv st H k n => match st with
  | v :: .ref a :: r => ∃ fs, va_at D cl (a, .inr (ci, fs)) H ∧ lo ≤ a ∧ cr_fit ty v ∧ cr_sn fs kf v (fun fs' => ∀ H', cr_Up D cl H a (.inr (ci, fs')) H' → K nx lv r H' k n)
  | _ => False
theorem cr_putf_ok {own ref C : String} {T : u_T} {N ci kf index : Nat} {Ts : List Cond} {ty : FieldType} (ty0 : Nat → FieldType) (hx : p.tables.exec = Jvm.exec) (hb : c.code = cc) (hts : ∀ w ∈ Ts, w.before args s = true) (hin : ∀ w ∈ u_ws C T N, w ∈ Ts) (hty : ∀ k, k < N → parseFieldDescriptor (T k).2.2.1 = some (ty0 k)) (hnm : ∀ a, a < N → ∀ b, b < N → a ≠ b → (T a).2.1 ≠ (T b).2.1) (hown : s.vm.findClass own = some m.cls) (hK : va_K D cl tys s) (hc : cl[ci]? = some (C, T, N)) (hk : kf < N)
    (hlink : (Cond.fieldLink own index ref (T kf).2.1 (T kf).2.2.1).before args s = true ∨ ∃ host, (Cond.fieldLinkNest own index ref (T kf).2.1 (T kf).2.2.1 host).before args s = true) (hsame : ∀ x, s.fieldFound? (T kf).1 (T kf).2.1 (T kf).2.2.1 = some x → s.fieldFound? ref (T kf).2.1 (T kf).2.2.1 = some x) (hfin : (T kf).2.2.2 = false) (hd2 : parseFieldDescriptor (T kf).2.2.1 = some ty) (hd : decode cc pc = .ok (.putfield index, 3)) (hn : pc + 3 = nx) : cr_Snd p l e R s m args below meth c lo mc ms Q pc (cr_putf D cl lo ci kf ty nx) := by
  subst hn
  intro K lv st H k n hKK h ls locs hl hq
  match st, h with
  | v :: .ref a :: r, ⟨fs, h1, ha, hf, h2⟩ =>
    obtain ⟨h3, h4⟩ := cr_sn_sp h2
    have hap := va_apart (own := own) hts hin ty0 hty hnm hK hc
    obtain ⟨r9, g1, cell, q1, q2, q3, q4⟩ := h1
    refine cr_W_old q1 (by rw [q3]; rfl) (fun hold => ?_)
    have hr : r9 = (C, T, N) := Option.some.inj (g1.symm.trans hc)
    subst hr
    obtain ⟨hS, hfc, kC, hkC, hkind⟩ := hK.1 ci _ hc
    obtain ⟨cf, kf9, fi, f, hi, hsl⟩ := hS kf hk
    have hlay := hts _ (hin _ (u_in_lay hk))
    unfold u_lay at hlay
    rw [if_neg (by rw [hfin]; decide)] at hlay
    have hst := (u_facts hfc hkC (u_lays hts hin hk) hi).1
    have h6 := u_store hfc hkC hkind hlay hi hd2 hf.1 hf.2
    have fin : ∀ H' : Heap, H'[a]? = some (cell.setSlot f.slot v) → H'.size = H.size → (∀ q, q ≠ a → H'[q]? = H[q]?) → W p l e R s m args below meth c H' (locs ++ [⟨a, f.slot⟩]) k n (cr_MQ below lo mc ms Q s) (F0 m (pc + 3) ls r) := by
      intro H' e1 e2 e3
      rw [hsl] at e1
      exact hKK _ _ _ _ _ _ (h4 H' ⟨e2, ⟨_, hc, t_OB.to (V := updV (vp_V fs) kf v) ⟨_, e1, q2, q3, t_set q4 hap hk v⟩ (fun j _ => vp_updV_set h3 v j)⟩, e3⟩) ls _ hl (cr_locs1 hq ⟨ha, hold⟩)
    rcases hlink with hlink | ⟨host, hlink⟩
    · exact W.putK hx hb (f := f) ⟨hown, hlink, ⟨_, _, _, hsame _ hi⟩, hst⟩ (by rw [q2]; exact h6) q1 q3 (by rw [hsl]; exact k2_hasslot (q4 kf hk)) rfl rfl hd fin
    · exact va_WputK hx hb (f := f) hown hlink (hsame _ hi) hst (by rw [q2]; exact h6) q1 q3 (by rw [hsl]; exact k2_hasslot (q4 kf hk)) rfl rfl hd fin
theorem cr_putF_ok {own ref C : String} {T : u_T} {N ci kf index : Nat} {Ts : List Cond} {ty : FieldType} (ty0 : Nat → FieldType) (hx : p.tables.exec = Jvm.exec) (hb : c.code = cc) (hts : ∀ w ∈ Ts, w.before args s = true) (hin : ∀ w ∈ u_ws C T N, w ∈ Ts) (hty : ∀ k, k < N → parseFieldDescriptor (T k).2.2.1 = some (ty0 k)) (hnm : ∀ a, a < N → ∀ b, b < N → a ≠ b → (T a).2.1 ≠ (T b).2.1) (hown : s.vm.findClass own = some m.cls) (hK : va_K D cl tys s) (hc : cl[ci]? = some (C, T, N)) (hk : kf < N)
    (hlink : (Cond.fieldLink own index ref (T kf).2.1 (T kf).2.2.1).before args s = true) (hsame : ∀ x, s.fieldFound? (T kf).1 (T kf).2.1 (T kf).2.2.1 = some x → s.fieldFound? ref (T kf).2.1 (T kf).2.2.1 = some x) (hfin : (T kf).2.2.2 = true) (hin2 : meth.name = "<init>") (hdecl : (T kf).1 = own) (hd2 : parseFieldDescriptor (T kf).2.2.1 = some ty) (hd : decode cc pc = .ok (.putfield index, 3)) (hn : pc + 3 = nx) : cr_Snd p l e R s m args below meth c lo mc ms Q pc (cr_putf D cl lo ci kf ty nx) := by
  subst hn
  intro K lv st H k n hKK h ls locs hl hq
  match st, h with
  | v :: .ref a :: r, ⟨fs, h1, ha, hf, h2⟩ =>
    obtain ⟨h3, h4⟩ := cr_sn_sp h2
    have hap := va_apart (own := own) hts hin ty0 hty hnm hK hc
    obtain ⟨r9, g1, cell, q1, q2, q3, q4⟩ := h1
    refine cr_W_old q1 (by rw [q3]; rfl) (fun hold => ?_)
    have hr : r9 = (C, T, N) := Option.some.inj (g1.symm.trans hc)
    subst hr
    obtain ⟨hS, hfc, kC, hkC, hkind⟩ := hK.1 ci _ hc
    obtain ⟨cf, kf9, fi, f, hi, hsl⟩ := hS kf hk
    have hlay := hts _ (hin _ (u_in_lay hk))
    unfold u_lay at hlay
    rw [if_pos hfin] at hlay
    have hst := (u_facts hfc hkC (u_lays hts hin hk) hi).1
    have hcf : m.cls = cf := by
      obtain ⟨_, _, c', _, _, _, -, -, hf', -, -, -, hown2, -⟩ := Cond.laysFinal_spec hlay
      have e1 : c' = cf := by have := hi.symm.trans hf'; simp at this; exact this.1.symm
      rw [hdecl] at hown2
      rw [← e1]; exact Option.some.inj (hown.symm.trans hown2)
    have h6 := u_fits hfc hkC hkind (Or.inr hlay) hi hd2 hf.1 hf.2
    refine W.putFinK hx hb hown hlink (hsame _ hi) hst hcf hin2 (by rw [q2]; exact h6) q1 q3 (by rw [hsl]; exact k2_hasslot (q4 kf hk)) rfl rfl hd fun H' e1 e2 e3 => ?_
    rw [hsl] at e1
    exact hKK _ _ _ _ _ _ (h4 H' ⟨e2, ⟨_, hc, t_OB.to (V := updV (vp_V fs) kf v) ⟨_, e1, q2, q3, t_set q4 hap hk v⟩ (fun j _ => vp_updV_set h3 v j)⟩, e3⟩) ls _ hl (cr_locs1 hq ⟨ha, hold⟩)
-- new objects
def cr_new (D : va_G) (cl : List vw_C) (lo mc ms : Nat) (ci N : Nat) (fs : List Value) (nx : Nat) : cr_T := fun K _ lv st H k n =>
  k + 1 ≤ mc ∧ n + N ≤ ms ∧ ∀ q H', cr_Nw D cl lo H q (.inr (ci, fs)) H' → K nx lv (.ref q :: st) H' (k + 1) (n + N)
theorem cr_new_ok {own C : String} {T : u_T} {N ci index : Nat} {Ts : List Cond} {fs : List Value} (ty : Nat → FieldType) (hx : p.tables.exec = Jvm.exec) (hb : c.code = cc) (hts : ∀ w ∈ Ts, w.before args s = true) (hin : ∀ w ∈ u_ws C T N, w ∈ Ts) (hty : ∀ k, k < N → parseFieldDescriptor (T k).2.2.1 = some (ty k)) (hown : s.vm.findClass own = some m.cls) (hcl : (Cond.classLink own index C).before args s = true) (hinst : (Cond.instantiable C N).before args s = true) (hini : (Cond.initialized C).before args s = true)
    (hK : va_K D cl tys s) (hc : cl[ci]? = some (C, T, N)) (hfs : ∀ j, j < N → defaultValue (ty j) = vp_V fs j) (hlo : lo ≤ s.heap.size) (hRc : R.cells = mc) (hRs : R.slots = ms) (hd : decode cc pc = .ok (.new index, 3)) (hn : pc + 3 = nx) : cr_Snd p l e R s m args below meth c lo mc ms Q pc (cr_new D cl lo mc ms ci N fs nx) := by
  subst hn
  intro K lv st H k n hKK h ls locs hl hq
  obtain ⟨h1, h2, h3⟩ := h
  refine cr_W_size (fun hsz => ?_)
  have hKn := hK.1 ci _ hc
  refine W.newcK hx hb hown hcl hinst hini rfl hd (by rw [hRc]; exact h1) (by rw [hRs]; exact h2) hKn.2.1 rfl fun H1 kC hkC e1 z1 o1 => ?_
  exact hKK _ _ _ _ _ _ (h3 H.size H1 ⟨rfl, Nat.le_trans hlo hsz, z1, ⟨_, hc, (u_born ty hts hin hKn hkC e1 hty).to hfs⟩, o1⟩) ls locs hl hq
-- arrays
def cr_iald (D : va_G) (cl : List vw_C) (cA : ClassId) (nx : Nat) : cr_T := fun K _ lv st H k n => match st with
  | .int i :: .ref a :: r => ∃ N f j, va_at D cl (a, .inl (cA, N, .inl f)) H ∧ i = nI j ∧ j < N ∧ N < 2 ^ 31 ∧ K nx lv (.int (f j) :: r) H k n
  | _ => False
theorem cr_iald_ok {cA : ClassId} {t0 : Nat} (hx : p.tables.exec = Jvm.exec) (hb : c.code = cc) (hK : va_K D cl tys s) (ht : tys[t0]? = some (cA, .int)) (hd : decode cc pc = .ok (.iaload, 1)) (hn : pc + 1 = nx) : cr_Snd p l e R s m args below meth c lo mc ms Q pc (cr_iald D cl cA nx) := by
  subst hn
  intro K lv st H k n hKK h ls locs hl hq
  match st, h with
  | .int i :: .ref a :: r, ⟨N, f, j, h1, h2, h3, h4, h5⟩ =>
    subst h2
    refine va_iald hx hb hK (cr_one h1) 0 t0 rfl ht (vp_in_nI h3 h4) hd ?_
    rw [nI_clamp (by omega)]
    exact hKK _ _ _ _ _ _ h5 ls locs hl hq
def cr_lald (D : va_G) (cl : List vw_C) (cA : ClassId) (nx : Nat) : cr_T := fun K _ lv st H k n => match st with
  | .int i :: .ref a :: r => ∃ N f j, va_at D cl (a, .inl (cA, N, .inr (.inl f))) H ∧ i = nI j ∧ j < N ∧ N < 2 ^ 31 ∧ K nx lv (.long (f j) :: r) H k n
  | _ => False
theorem cr_lald_ok {cA : ClassId} {t0 : Nat} (hx : p.tables.exec = Jvm.exec) (hb : c.code = cc) (hK : va_K D cl tys s) (ht : tys[t0]? = some (cA, .long)) (hd : decode cc pc = .ok (.laload, 1)) (hn : pc + 1 = nx) : cr_Snd p l e R s m args below meth c lo mc ms Q pc (cr_lald D cl cA nx) := by
  subst hn
  intro K lv st H k n hKK h ls locs hl hq
  match st, h with
  | .int i :: .ref a :: r, ⟨N, f, j, h1, h2, h3, h4, h5⟩ =>
    subst h2
    refine va_lald hx hb hK (cr_one h1) 0 t0 rfl ht (vp_in_nI h3 h4) hd ?_
    rw [nI_clamp (by omega)]
    exact hKK _ _ _ _ _ _ h5 ls locs hl hq
def cr_aald (D : va_G) (cl : List vw_C) (cA : ClassId) (nx : Nat) : cr_T := fun K _ lv st H k n => match st with
  | .int i :: .ref a :: r => ∃ N f j x, va_at D cl (a, .inl (cA, N, .inr (.inr (.inr (.inr f))))) H ∧ i = nI j ∧ j < N ∧ N < 2 ^ 31 ∧ f j = x ∧ (match x with | some y => K nx lv (.ref y :: r) H k n | none => K nx lv (.null :: r) H k n)
  | _ => False
theorem cr_aald_ok {cA : ClassId} {C : String} {t0 : Nat} (hx : p.tables.exec = Jvm.exec) (hb : c.code = cc) (hK : va_K D cl tys s) (ht : tys[t0]? = some (cA, .object C)) (hd : decode cc pc = .ok (.aaload, 1)) (hn : pc + 1 = nx) : cr_Snd p l e R s m args below meth c lo mc ms Q pc (cr_aald D cl cA nx) := by
  subst hn
  intro K lv st H k n hKK h ls locs hl hq
  match st, h with
  | .int i :: .ref a :: r, ⟨N, f, j, x, h1, h2, h3, h4, h5, h6⟩ =>
    subst h2
    refine va_aldq hx hb hK (cr_one h1) 0 t0 rfl ht (vp_in_nI h3 h4) hd ?_
    rw [nI_clamp (by omega), h5]
    match x, h6 with
    | some y, h6 => exact hKK _ _ _ _ _ _ h6 ls locs hl hq
    | none, h6 => exact hKK _ _ _ _ _ _ h6 ls locs hl hq
def cr_iast (D : va_G) (cl : List vw_C) (lo : Nat) (cA : ClassId) (nx : Nat) : cr_T := fun K _ lv st H k n => match st with
  | .int x :: .int i :: .ref a :: r => ∃ N f j, va_at D cl (a, .inl (cA, N, .inl f)) H ∧ lo ≤ a ∧ i = nI j ∧ j < N ∧ N < 2 ^ 31 ∧ ∀ H', cr_Up D cl H a (.inl (cA, N, .inl (upd f j x))) H' → K nx lv r H' k n
  | _ => False
theorem cr_iast_ok {cA : ClassId} {t0 : Nat} (hx : p.tables.exec = Jvm.exec) (hb : c.code = cc) (hK : va_K D cl tys s) (ht : tys[t0]? = some (cA, .int)) (hd : decode cc pc = .ok (.iastore, 1)) (hn : pc + 1 = nx) : cr_Snd p l e R s m args below meth c lo mc ms Q pc (cr_iast D cl lo cA nx) := by
  subst hn
  intro K lv st H k n hKK h ls locs hl hq
  match st, h with
  | .int x :: .int i :: .ref a :: r, ⟨N, f, j, h1, ha, h2, h3, h4, h5⟩ =>
    subst h2
    refine cr_W_old (cell := vp_cell _ _) h1 rfl (fun hold => ?_)
    refine W.iast hx hb h1 ((hK.2 t0 _ ht).1 N (fun j => .int (f j))) (fun q => by cases q) (by show ¬ (nI j < 0 ∨ (arrV _ _ _).slots.size ≤ _); rw [arrV_size]; exact vp_in_nI h3 h4) rfl rfl hd fun H1 e z oq => ?_
    refine hKK _ _ _ _ _ _ (h5 H1 ⟨z, ?_, oq⟩) ls _ hl (cr_locs1 hq ⟨ha, hold⟩)
    show H1[a]? = some (vp_cell _ _)
    rw [e, nI_clamp (by omega)]
    rw [vp_cell_i, vp_cell_i, arrV_store]
    congr 2
    funext q
    by_cases hq : q = j
    · subst hq
      simp [updV, upd]
    · simp [updV, upd, hq]
def cr_last (D : va_G) (cl : List vw_C) (lo : Nat) (cA : ClassId) (nx : Nat) : cr_T := fun K _ lv st H k n => match st with
  | .long x :: .int i :: .ref a :: r => ∃ N f j, va_at D cl (a, .inl (cA, N, .inr (.inl f))) H ∧ lo ≤ a ∧ i = nI j ∧ j < N ∧ N < 2 ^ 31 ∧ ∀ H', cr_Up D cl H a (.inl (cA, N, .inr (.inl (vp_updL f j x)))) H' → K nx lv r H' k n
  | _ => False
theorem cr_last_ok {cA : ClassId} {t0 : Nat} (hx : p.tables.exec = Jvm.exec) (hb : c.code = cc) (hK : va_K D cl tys s) (ht : tys[t0]? = some (cA, .long)) (hd : decode cc pc = .ok (.lastore, 1)) (hn : pc + 1 = nx) : cr_Snd p l e R s m args below meth c lo mc ms Q pc (cr_last D cl lo cA nx) := by
  subst hn
  intro K lv st H k n hKK h ls locs hl hq
  match st, h with
  | .long x :: .int i :: .ref a :: r, ⟨N, f, j, h1, ha, h2, h3, h4, h5⟩ =>
    subst h2
    refine cr_W_old (cell := vp_cell _ _) h1 rfl (fun hold => ?_)
    refine W.last hx hb h1 ((hK.2 t0 _ ht).1 N (fun j => .long (f j))) (fun q => by cases q) (by show ¬ (nI j < 0 ∨ (arrV _ _ _).slots.size ≤ _); rw [arrV_size]; exact vp_in_nI h3 h4) rfl rfl hd fun H1 e z oq => ?_
    refine hKK _ _ _ _ _ _ (h5 H1 ⟨z, ?_, oq⟩) ls _ hl (cr_locs1 hq ⟨ha, hold⟩)
    show H1[a]? = some (vp_cell _ _)
    rw [e, nI_clamp (by omega)]
    rw [vp_cell_l, vp_cell_l, arrV_store]
    congr 2
    funext q
    by_cases hq : q = j
    · subst hq
      simp [updV, vp_updL]
    · simp [updV, vp_updL, hq]
def cr_alen (D : va_G) (cl : List vw_C) (cA : ClassId) (nx : Nat) : cr_T := fun K _ lv st H k n => match st with
  | .ref a :: r => ∃ x : vp_A, va_at D cl (a, .inl (cA, x)) H ∧ K nx lv (.int (nI x.1) :: r) H k n
  | _ => False
theorem cr_alen_ok {cA : ClassId} {ty : FieldType} {t0 : Nat} (hx : p.tables.exec = Jvm.exec) (hb : c.code = cc) (hK : va_K D cl tys s) (ht : tys[t0]? = some (cA, ty)) (hd : decode cc pc = .ok (.arraylength, 1)) (hn : pc + 1 = nx) : cr_Snd p l e R s m args below meth c lo mc ms Q pc (cr_alen D cl cA nx) := by
  subst hn
  intro K lv st H k n hKK h ls locs hl hq
  match st, h with
  | .ref a :: r, ⟨x, h1, h2⟩ => exact va_alen hx hb hK (cr_one h1) 0 t0 rfl ht rfl hd (hKK _ _ _ _ _ _ h2 ls locs hl hq)
/-- a new array of numbers: z its length -/
def cr_newa (D : va_G) (cl : List vw_C) (lo mc ms : Nat) (cA : ClassId) (sz : Nat) (nx : Nat) (x0 : Nat → vp_A) : cr_T := fun K _ lv st H k n => match st with
  | .int z :: r => ∃ N, z = nI N ∧ N < 2 ^ 31 ∧ N * sz ≤ 536870912 ∧ k + 1 ≤ mc ∧ n + N ≤ ms ∧ ∀ q H', cr_Nw D cl lo H q (.inl (cA, x0 N)) H' → K nx lv (.ref q :: r) H' (k + 1) (n + N)
  | _ => False
theorem cr_newa_ok {atype : ArrayType} {ty : FieldType} {cA : ClassId} {sz t0 : Nat} {x0 : Nat → vp_A} (hx : p.tables.exec = Jvm.exec) (hb : c.code = cc) (harr : (Cond.arrayClass (newarray.typeOf atype)).before args s = true) (hty : newarray.typeOf atype = ty) (hnr : ty.isReference = false) (hsz : componentBytes ty = sz) (hx0 : ∀ N, vp_cell cA (x0 N) = arrV cA N (fun _ => defaultValue ty)) (hfc : s.vm.findClass ("[" ++ ty.toString) = some cA)
    (hlo : lo ≤ s.heap.size) (hRc : R.cells = mc) (hRs : R.slots = ms) (hd : decode cc pc = .ok (.newarray atype, 2)) (hn : pc + 2 = nx) : cr_Snd p l e R s m args below meth c lo mc ms Q pc (cr_newa D cl lo mc ms cA sz nx x0) := by
  subst hn; subst hty
  intro K lv st H k n hKK h ls locs hl hq
  match st, h with
  | .int z :: r, ⟨N, h1, h2, h3, h4, h5, h6⟩ =>
    subst h1
    refine cr_W_size (fun hs9 => ?_)
    refine va_newaK hx hb harr rfl hd rfl (nI_pos h2) (nI_clamp h2) (by rw [hsz]; exact h3) (by rw [hRc]; exact h4) (by rw [hRs]; exact h5) rfl fun H1 cB e1 z1 o1 hAr hNm => ?_
    have hcc : cB = cA := Option.some.inj (hNm.symm.trans hfc)
    subst hcc
    exact hKK _ _ _ _ _ _ (h6 H.size H1 ⟨rfl, Nat.le_trans hlo hs9, z1, by show H1[H.size]? = some (vp_cell _ _); rw [hx0]; exact e1, o1⟩) ls locs hl hq
/-- a new array of references -/
def cr_newq (D : va_G) (cl : List vw_C) (lo mc ms : Nat) (cA : ClassId) (nx : Nat) : cr_T := fun K _ lv st H k n => match st with
  | .int z :: r => ∃ N, z = nI N ∧ N < 2 ^ 31 ∧ N * 4 ≤ 536870912 ∧ k + 1 ≤ mc ∧ n + N ≤ ms ∧ ∀ q H', cr_Nw D cl lo H q (.inl (cA, N, .inr (.inr (.inr (.inr (fun _ => none)))))) H' → K nx lv (.ref q :: r) H' (k + 1) (n + N)
  | _ => False
theorem cr_newq_ok {own C : String} {index : Nat} {cA : ClassId} (hx : p.tables.exec = Jvm.exec) (hb : c.code = cc) (hown : s.vm.findClass own = some m.cls) (hclink : (Cond.classLink own index C).before args s = true) (hover : (Cond.arrayOver (.object C)).before args s = true) (hfc : s.vm.findClass ("[" ++ (FieldType.object C).toString) = some cA)
    (hlo : lo ≤ s.heap.size) (hRc : R.cells = mc) (hRs : R.slots = ms) (hd : decode cc pc = .ok (.anewarray index, 3)) (hn : pc + 3 = nx) : cr_Snd p l e R s m args below meth c lo mc ms Q pc (cr_newq D cl lo mc ms cA nx) := by
  subst hn
  intro K lv st H k n hKK h ls locs hl hq
  match st, h with
  | .int z :: r, ⟨N, h1, h2, h3, h4, h5, h6⟩ =>
    subst h1
    have hN := nI_clamp h2
    refine cr_W_size (fun hs9 => ?_)
    refine W.anew hx hb hown hclink hover rfl hd rfl (nI_pos h2) (by rw [hN]; exact h3) (by rw [hRc]; exact h4) (by rw [hN, hRs]; exact h5) fun cB kA comp f1 f2 f3 f4 => ?_
    have hcc : cB = cA := Option.some.inj (f1.symm.trans hfc)
    subst hcc
    rw [hN]
    refine hKK _ _ _ _ _ _ (h6 H.size _ ⟨rfl, Nat.le_trans hlo hs9, by rw [Array.size_push], ?_, fun q hq => by rw [Array.getElem?_push, if_neg (Nat.ne_of_lt hq)]⟩) ls locs hl hq
    show (H.push _)[H.size]? = some (vp_cell _ _)
    rw [vp_cell_q, Array.getElem?_push_size, ← arrV_new]
    rfl
/-- a reference is stored: an object of a class of the list, whose class fits the array's -/
def cr_aast (D : va_G) (cl : List vw_C) (lo : Nat) (cA : ClassId) (cs : List Nat) (nx : Nat) : cr_T := fun K _ lv st H k n => match st with
  | .ref v :: .int i :: .ref a :: r => ∃ N f j ci fs, va_at D cl (a, .inl (cA, N, .inr (.inr (.inr (.inr f))))) H ∧ lo ≤ a ∧ i = nI j ∧ j < N ∧ N < 2 ^ 31 ∧ ci ∈ cs ∧ va_at D cl (v, .inr (ci, fs)) H ∧ ∀ H', cr_Up D cl H a (.inl (cA, N, .inr (.inr (.inr (.inr (va_up f j (some v))))))) H' → K nx lv r H' k n
  | .null :: .int i :: .ref a :: r => ∃ N f j, va_at D cl (a, .inl (cA, N, .inr (.inr (.inr (.inr f))))) H ∧ lo ≤ a ∧ i = nI j ∧ j < N ∧ N < 2 ^ 31 ∧ ∀ H', cr_Up D cl H a (.inl (cA, N, .inr (.inr (.inr (.inr (va_up f j none)))))) H' → K nx lv r H' k n
  | _ => False
theorem cr_aast_ok {cA : ClassId} {C : String} {t0 : Nat} {cs : List Nat} (hx : p.tables.exec = Jvm.exec) (hb : c.code = cc) (hK : va_K D cl tys s) (ht : tys[t0]? = some (cA, .object C)) (hcast : ∀ ci ∈ cs, ∃ r, cl[ci]? = some r ∧ (Cond.castable r.1 C).before args s = true) (hd : decode cc pc = .ok (.aastore, 1)) (hn : pc + 1 = nx) : cr_Snd p l e R s m args below meth c lo mc ms Q pc (cr_aast D cl lo cA cs nx) := by
  subst hn
  intro K lv st H k n hKK h ls locs hl hq
  have stf : ∀ (H1 : Heap) (a j N : Nat) (f : Nat → Option Nat) (x : Option Nat), H1[a]? = some ((arrV cA N (fun j => va_rf (f j))).setSlot j (va_rf x)) → va_at D cl (a, .inl (cA, N, .inr (.inr (.inr (.inr (va_up f j x)))))) H1 := by
    intro H1 a j N f x e
    show H1[a]? = some (vp_cell _ _)
    rw [e, vp_cell_q, arrV_store]
    congr 2
    funext q
    by_cases hq : q = j
    · subst hq
      simp [updV, va_up]
    · simp [updV, va_up, hq]
  match st, h with
  | .ref v :: .int i :: .ref a :: r, ⟨N, f, j, ci, fs, h1, ha, h2, h3, h4, hci, hv, h5⟩ =>
    subst h2
    obtain ⟨r0, hr0, hca⟩ := hcast ci hci
    obtain ⟨r9, hr9, cellV, g1, g2, g3, -⟩ := hv
    have er : r9 = r0 := Option.some.inj (hr9.symm.trans hr0)
    subst er
    have hcls := (hK.1 ci _ hr0).2
    obtain ⟨kA, comp, k1, k2, k3, -⟩ := (hK.2 t0 _ ht).2
    obtain ⟨c0, t9, w1, w2, w3⟩ := Cond.castable_spec hca
    cases hcls.1.symm.trans w1
    cases k3.symm.trans w2
    obtain ⟨kC, hkC, -⟩ := hcls.2
    obtain ⟨kcomp, hkcomp⟩ := Vm.classAt_of_findClass k3
    refine cr_W_old (cell := vp_cell _ _) h1 rfl (fun hold => ?_)
    refine W.aast hx hb h1 (fun q h => by cases h) (fun h => by cases h) k1 k2 rfl hkcomp ⟨nI_pos (by omega), by show _ < (arrV _ _ _).slots.size; rw [arrV_size, nI_clamp (by omega)]; exact h3⟩ g1 (fun q h => by rw [g3] at h; cases h) (by rw [g2]; exact hkC) (by rw [g2]; exact w3) rfl rfl hd fun H1 e z oq => ?_
    refine hKK _ _ _ _ _ _ (h5 H1 ⟨z, stf H1 a j N f (some v) ?_, oq⟩) ls _ hl (cr_locs1 hq ⟨ha, hold⟩)
    rw [e, nI_clamp (by omega)]
    rfl
  | .null :: .int i :: .ref a :: r, ⟨N, f, j, h1, ha, h2, h3, h4, h5⟩ =>
    subst h2
    refine cr_W_old (cell := vp_cell _ _) h1 rfl (fun hold => ?_)
    refine va_WaastN (C := C) hx hb h1 ((hK.2 t0 _ ht).1 N (fun j => va_rf (f j))) (fun h => by cases h) (by show ¬ (nI j < 0 ∨ (arrV _ _ _).slots.size ≤ _); rw [arrV_size]; exact vp_in_nI h3 h4) rfl rfl hd fun H1 e z oq => ?_
    refine hKK _ _ _ _ _ _ (h5 H1 ⟨z, stf H1 a j N f none ?_, oq⟩) ls _ hl (cr_locs1 hq ⟨ha, hold⟩)
    rw [e, nI_clamp (by omega)]
    rfl
/-- checkcast of an object whose class is known -/
def cr_cast (D : va_G) (cl : List vw_C) (ci nx : Nat) : cr_T := fun K _ lv st H k n => match st with
  | .ref a :: r => ∃ fs, va_at D cl (a, .inr (ci, fs)) H ∧ K nx lv (.ref a :: r) H k n
  | _ => False
theorem cr_cast_ok {own C nm : String} {T : u_T} {N ci index : Nat} (hx : p.tables.exec = Jvm.exec) (hb : c.code = cc) (hown : s.vm.findClass own = some m.cls) (hlink : (Cond.classLink own index nm).before args s = true) (hK : va_K D cl tys s) (hc : cl[ci]? = some (C, T, N)) (hnm : nm = C) (hd : decode cc pc = .ok (.checkcast index, 3)) (hn : pc + 3 = nx) : cr_Snd p l e R s m args below meth c lo mc ms Q pc (cr_cast D cl ci nx) := by
  subst hn; subst hnm
  intro K lv st H k n hKK h ls locs hl hq
  match st, h with
  | .ref a :: r, ⟨fs, h1, h2⟩ => exact va_castS hx hb hown hlink (hK.1 ci _ hc).2 (va_recv hK (cr_one h1) hc (q0 := 0) rfl) hd (hKK _ _ _ _ _ _ h2 ls locs hl hq)
end CR2
end
section
/-! THE LIGHT MACHINE, its calls: a method's contract 'cr_M', how it is entered, how it is used at a call (both outcomes). -/
def cr_rm (d mc ms : Nat) : Room := { frames := d, cells := mc, slots := ms, locals := 60 * d }
/-- from any state with the heap H and the tables' facts U the method y, called with av, ends with Q; d its frames, mc its cells, ms its slots; nothing below lo is written -/
def cr_M (l : Launch) (U : State → Prop) (lo : Nat) (y : MethodName) (cw : Cond) (d mc ms : Nat) (av : List Value) (H : Heap) (Q : cr_Q) : Prop :=
  lo ≤ H.size → MetFree l y (headSpec [cw] (cr_rm d mc ms)) (fun a st => a = av.toArray ∧ st.heap = H ∧ U st) (fun _ _ _ _ _ => True)
    (fun _ st o t => cr_O Q st o t ∧ ∃ L, cr_FE st t L mc ms ∧ ∀ q ∈ L, cr_lc lo st q.base)
/-- the facts are of the tables alone, and warmer tables keep them -/
def cr_St (U : State → Prop) : Prop := ∀ u v : State, u.WarmedH v.vm → U u → U v
-- what a method's body may lean on
def cr_C (p : Program) (R : Room) (s : State) (m : MethodId) (meth : Method) (c : Code) (U : State → Prop) (lo : Nat) (y : MethodName) (cc : ByteArray) (maxL : Nat) (ret : Option FieldType) (d mc ms : Nat) : Prop :=
  p.tables.exec = Jvm.exec ∧ c.code = cc ∧ c.maxLocals = maxL ∧ s.vm.findClass y.cls = some m.cls ∧ meth.sig.returnType = ret ∧ meth.locks = false ∧ meth.name = y.name ∧ U s ∧ lo ≤ s.heap.size ∧ R = cr_rm d mc ms
def cr_e : List Value → Nat → cr_Lv
  | [], n => List.replicate n none
  | v :: t, n => some v :: (if v.category = 2 then none :: cr_e t (n - 2) else cr_e t (n - 1))
theorem cr_as_none : ∀ (n b : Nat), cr_as b (List.replicate n none) = []
  | 0, _ => rfl
  | n + 1, b => by
    rw [List.replicate_succ]
    exact cr_as_none n (b + 1)
theorem cr_sl_cons (v : Value) (t : List Value) : (lg_sl (v :: t)).length = (if v.category = 2 then 2 else 1) + (lg_sl t).length := by
  by_cases h : v.category = 2 <;> simp [lg_sl, h] <;> omega
theorem cr_e_sp : ∀ (av : List Value) (n b : Nat), (lg_sl av).length ≤ n → (cr_e av n).length = n ∧ cr_as b (cr_e av n) = lv_args b av
  | [], n, b, _ => ⟨by simp [cr_e], cr_as_none n b⟩
  | v :: t, n, b, h => by
    rw [cr_sl_cons] at h
    by_cases hc : v.category = 2
    · rw [if_pos hc] at h
      obtain ⟨h1, h2⟩ := cr_e_sp t (n - 2) (b + 2) (by omega)
      refine ⟨by simp [cr_e, hc, h1]; omega, ?_⟩
      simp only [cr_e, hc, if_true, cr_as, lv_args]
      rw [show b + 1 + 1 = b + 2 by omega, h2]
    · rw [if_neg hc] at h
      obtain ⟨h1, h2⟩ := cr_e_sp t (n - 1) (b + 1) (by omega)
      refine ⟨by simp [cr_e, hc, h1]; omega, ?_⟩
      simp only [cr_e, hc, if_false, cr_as, lv_args]
      rw [h2]
section CR3
variable {l : Launch} {U : State → Prop} {lo : Nat} {y : MethodName} {cc : ByteArray} {maxL : Nat} {ret : Option FieldType} {d mc ms : Nat} {av : List Value} {H : Heap} {Q : cr_Q}
theorem cr_entL (hw : (lg_sl av).length ≤ maxL) : cr_L ((lg_sl av ++ List.replicate (maxL - (lg_sl av).length) Slot.unset).toArray) (cr_e av maxL) := by
  obtain ⟨h1, h2⟩ := cr_e_sp av maxL 0 hw
  unfold cr_L
  rw [h1, h2]
  exact lv_entry av hw
/-- into a method without handlers -/
theorem cr_enter (hy : plainName y.cls = true) (hw : (lg_sl av).length ≤ maxL)
    (body : lo ≤ H.size → ∀ (p : Program) (e : Env) (s : State) (m : MethodId) (args : Array Value) (below : List Frame) (meth : Method) (c : Code), cr_C p (cr_rm d mc ms) s m meth c U lo y cc maxL ret d mc ms → c.exceptionTable.toList = [] → s.heap = H →
      cr_G p l e (cr_rm d mc ms) s m args below meth c lo mc ms Q 0 (cr_e av maxL) [] H 0 0) : cr_M l U lo y (.code y cc maxL ret) d mc ms av H Q := by
  intro hlo
  refine MetFree.of_bodyS (code := cc) (maxLocals := maxL) (ret := ret) hy ?_ ?_
  · intro args s m h hn
    obtain ⟨meth, c, h1, h2, h3, h4, h5, h6, -, -⟩ := Cond.code_spec hn (atoms_spec (ws := [.code y cc maxL ret]) h _ List.mem_cons_self)
    exact ⟨meth, c, h1, h2, h3, h4, h5, h6⟩
  · intro p e s m args below meth c s₁ B hml hP _
    obtain ⟨rfl, hH, hU⟩ := hP
    have hh0 : s₁.heap = H := by rw [B.state]; exact hH
    have hcw := atoms_spec (ws := [.code y cc maxL ret]) B.pre _ List.mem_cons_self
    have hem : c.exceptionTable.toList = [] := by
      have h0 := B.noHandlers hcw
      have h1 : c.exceptionTable.size = 0 := by simpa [Array.isEmpty] using h0
      exact List.eq_nil_of_length_eq_zero (by simpa using h1)
    have hC : cr_C p (cr_rm d mc ms) s m meth c U lo y cc maxL ret d mc ms := ⟨B.exec, B.bytes, hml, findClass_of_methodNamed B.named, B.returns, B.notSynchronized, (name_of_methodNamed B.named B.method).1, hU, by rw [hH]; exact hlo, rfl⟩
    have K := body hlo p e s m av.toArray below meth c hC hem hH _ [] (cr_entL hw) (fun q h => by cases h)
    rw [lg_entry_eq]
    obtain ⟨t, a1, o, b1, b2, b3, L, b4, b5⟩ := K s₁ hh0 (Stand.of_body B)
    exact ⟨t, o, a1, b1, b2, b3, L, b4, b5⟩
/-- into a method with handlers -/
theorem cr_enterW {hh : List (Nat × Nat × Nat × Nat)} (hy : plainName y.cls = true) (hw : (lg_sl av).length ≤ maxL)
    (body : lo ≤ H.size → ∀ (p : Program) (e : Env) (s : State) (m : MethodId) (args : Array Value) (below : List Frame) (meth : Method) (c : Code), cr_C p (cr_rm d mc ms) s m meth c U lo y cc maxL ret d mc ms → (Cond.codeWith y cc maxL ret hh).before args s = true → s.methodNamed? y = some m → s.vm.method? m = some meth → meth.code = some c → s.heap = H →
      cr_G p l e (cr_rm d mc ms) s m args below meth c lo mc ms Q 0 (cr_e av maxL) [] H 0 0) : cr_M l U lo y (.codeWith y cc maxL ret hh) d mc ms av H Q := by
  intro hlo
  refine MetFree.of_bodyS (code := cc) (maxLocals := maxL) (ret := ret) hy ?_ ?_
  · intro args s m h hn
    obtain ⟨m9, meth, c, hn9, h1, h2, h3, h4, -, h5, h6, -⟩ := Cond.codeWith_spec (atoms_spec (ws := [.codeWith y cc maxL ret hh]) h _ List.mem_cons_self)
    cases hn.symm.trans hn9
    exact ⟨meth, c, h1, h2, h3, h4, h5, h6⟩
  · intro p e s m args below meth c s₁ B hml hP _
    obtain ⟨rfl, hH, hU⟩ := hP
    have hh0 : s₁.heap = H := by rw [B.state]; exact hH
    have hcw := atoms_spec (ws := [.codeWith y cc maxL ret hh]) B.pre _ List.mem_cons_self
    have hC : cr_C p (cr_rm d mc ms) s m meth c U lo y cc maxL ret d mc ms := ⟨B.exec, B.bytes, hml, findClass_of_methodNamed B.named, B.returns, B.notSynchronized, (name_of_methodNamed B.named B.method).1, hU, by rw [hH]; exact hlo, rfl⟩
    have K := body hlo p e s m av.toArray below meth c hC hcw B.named B.method (Stand.of_body B).code hH _ [] (cr_entL hw) (fun q h => by cases h)
    rw [lg_entry_eq]
    obtain ⟨t, a1, o, b1, b2, b3, L, b4, b5⟩ := K s₁ hh0 (Stand.of_body B)
    exact ⟨t, o, a1, b1, b2, b3, L, b4, b5⟩
end CR3
-- the top of the operand stack, as arguments
def cr_tk : Nat → List Value → List Value → (List Value → List Value → Prop) → Prop
  | 0, acc, st, f => f acc st
  | _ + 1, _, [], _ => False
  | n + 1, acc, v :: st, f => cr_tk n (v :: acc) st f
theorem cr_tk_sp : ∀ {n : Nat} {acc st : List Value} {f : List Value → List Value → Prop}, cr_tk n acc st f → ∃ vs r, st = vs ++ r ∧ vs.length = n ∧ f (vs.reverse ++ acc) r
  | 0, acc, st, f, h => ⟨[], st, rfl, rfl, h⟩
  | _ + 1, _, [], _, h => False.elim h
  | n + 1, acc, v :: st, f, h => by
    obtain ⟨vs, r, h1, h2, h3⟩ := cr_tk_sp (n := n) (acc := v :: acc) (st := st) (f := f) h
    exact ⟨v :: vs, r, by rw [h1]; rfl, by simp [h2], by simpa using h3⟩
/-- what a call asks of its callee's contract, and what comes back -/
def cr_after (l : Launch) (U : State → Prop) (lo : Nat) (y : MethodName) (cw : Cond) (d mc ms : Nat) (nx : Nat) (K : cr_K) (Q : cr_Q) (lv : cr_Lv) (av r : List Value) (H : Heap) (k n : Nat) : Prop :=
  ∃ d' mc' ms' Qc, cr_M l U lo y cw d' mc' ms' av H Qc ∧ d' + 1 ≤ d ∧ k + mc' ≤ mc ∧ n + ms' ≤ ms ∧ (r.map fun v => v.category).sum ≤ 8 ∧
    (∀ v H', Qc (.inl v) H' → H.size ≤ H'.size → K nx lv (v.toList ++ r) H' (k + mc') (n + ms')) ∧ ∀ kd H', Qc (.inr kd) H' → H.size ≤ H'.size → Q (.inr kd) H'
section CR4
variable {p : Program} {l : Launch} {e : Env} {R : Room} {s : State} {m : MethodId} {args : Array Value} {below : List Frame} {meth : Method} {c : Code} {T : State} {locs : List Loc} {k n : Nat}
theorem cr_inv (X : Stand p l e R s m args below meth c T locs k n) {y : MethodName} {cw : Cond} {rm : Room} {P : Array Value → State → Prop} {Q : Array Value → State → Outcome → State → Prop} (hM : MetFree l y (headSpec [cw] rm) P (fun _ _ _ _ _ => True) Q) {mk : MethodId} {methY : Method} {cY : Code} {kY : Class} {maxL : Nat}
    (hn : T.methodNamed? y = some mk) (hmY : T.vm.method? mk = some methY) (hcY : methY.code = some cY) (hlY : cY.maxLocals = maxL) (hkY : T.vm.classes[mk.cls]? = some kY) (hinitY : kY.init = .initialized)
    (hframes : rm.frames + 1 ≤ R.frames) (hlocals : 8 + (maxL + 11) + rm.locals ≤ R.locals) (hcells : k + rm.cells ≤ R.cells) (hslots : n + rm.slots ≤ R.slots) {a : Array Value} (hcw : cw.before a T = true)
    {g : JFrame} (hg : g.method = m) (hsize : g.locals.size = c.maxLocals) {ig : Instr} {len : Nat} (hdg : decode c.code g.pc = .ok (ig, len)) (hW : 2 * g.monitorRoom + (g.stack.map fun v => v.category).sum ≤ 8) (hP : P a (T.calling g mk a)) :
    ∃ o s₂, Steps p.tables e below (doInvoke e (T.setTop g) [] mk a).1 s₂ ∧ Ended s₂ (.java g :: below) o ∧ Q a (T.calling g mk a) o s₂ := by
  have h : At T g.method c below := by rw [hg]; exact X.here
  have happ : (headSpec [cw] rm).appliesLoose y e.platform (T.calling g mk a) = true :=
    Spec.appliesLoose_calling (g := g) h hdg hn hkY hinitY (X.room_calling (g := g) (R' := rm) hsize hmY hcY hframes (by rw [hlY]; omega) hcells hslots)
      (atoms_intro (fun w hw => by rw [List.mem_singleton.mp hw]; exact hcw))
  obtain ⟨mid, hmid⟩ := h.above
  have hfr : (T.setTop g).frames = (.java g :: mid) ++ below := by rw [State.frames_setTop' g h.top, hmid]; rfl
  obtain ⟨o, s₂, hsteps, -, hend, hq⟩ := Steps.callFree hM p X.admits X.cas X.clock (acts := []) hfr happ hP trivial
  rw [State.frames_setTop' g h.top, X.tail] at hend
  exact ⟨o, s₂, hsteps, hend, hq⟩
variable {H : Heap} {lo mc ms d : Nat} {Q : cr_Q} {U : State → Prop} {pc nx : Nat} {ls : Array Slot} {lv : cr_Lv} {st r av : List Value}
/-- behind the resolution of any invoke: the callee's contract, both outcomes; no handler covers the call -/
theorem cr_cal {y : MethodName} {cw : Cond} {maxL len : Nat} {ig : Instr} {K : cr_K} (hK : ∀ pc lv st H k n, K pc lv st H k n → cr_G p l e R s m args below meth c lo mc ms Q pc lv st H k n)
    (hR : R = cr_rm d mc ms) (hU : U s) (hst : cr_St U) (hlo : lo ≤ s.heap.size) (hlocks : meth.locks = false) (hout : ∀ x ∈ c.exceptionTable.toList, covers x pc = false) (hml : c.maxLocals = lv.length) (hmaxL : maxL ≤ 41)
    (hdg : decode c.code pc = .ok (ig, len)) (hnx : pc + len = nx) (hl : cr_L ls lv) (hq : ∀ q ∈ locs, cr_lc lo s q.base)
    (hcw : ∀ (a' : Array Value) (V : State), s.WarmedH V.vm → cw.before a' V = true)
    (hcY : ∀ V : State, s.WarmedH V.vm → ∀ mk, V.methodNamed? y = some mk → (∃ methY cY, V.vm.method? mk = some methY ∧ methY.code = some cY ∧ cY.maxLocals = maxL) ∧ ∃ kY, V.vm.classes[mk.cls]? = some kY ∧ kY.init = .initialized)
    (hres : ∀ T : State, T.heap = H → Stand p l e R s m args below meth c T locs k n → ∃ vm₁ mk, Stand p l e R s m args below meth c (T.setVm vm₁) locs k n ∧ (T.setVm vm₁).methodNamed? y = some mk ∧
      ∀ target, (∀ acts, Steps p.tables e below (doInvoke e ((T.setVm vm₁).setTop (F0 m pc ls r)) acts mk av.toArray).1 target) → Steps p.tables e below (T.setTop (F0 m pc ls st)) target)
    (h : cr_after l U lo y cw d mc ms nx K Q lv av r H k n) : W p l e R s m args below meth c H locs k n (cr_MQ below lo mc ms Q s) (F0 m pc ls st) := by
  obtain ⟨d', mc', ms', Qc, hM, hd', hk', hn', hcat, hret, hthr⟩ := h
  subst hnx
  refine cr_W_size (fun hsz => ?_)
  have hM := hM (Nat.le_trans hlo hsz)
  intro T hT X
  obtain ⟨vm₁, mk, X₁, hnm, hstp⟩ := hres T hT X
  have hU1 : U (T.setVm vm₁) := hst s _ X₁.warmed hU
  obtain ⟨⟨methY, cY, y1, y2, y3⟩, kY, y4, y5⟩ := hcY (T.setVm vm₁) X₁.warmed mk hnm
  have hsz9 : (F0 m pc ls r).locals.size = c.maxLocals := by rw [hml]; exact hl.1
  obtain ⟨o, s₂, hs, hend, hO, L, hFE, hL⟩ := cr_inv X₁ hM hnm y1 y2 y3 y4 y5 (by rw [hR]; exact hd') (by rw [hR]; show 8 + (maxL + 11) + 60 * d' ≤ 60 * d; omega) (by rw [hR]; exact hk') (by rw [hR]; exact hn') (a := av.toArray) (hcw _ _ X₁.warmed) (g := F0 m pc ls r) rfl hsz9 hdg
    (by show 2 * JFrame.monitorRoom _ + _ ≤ 8; simpa [JFrame.monitorRoom] using hcat) ⟨rfl, hT, hst (T.setVm vm₁) _ (State.WarmedH.refl (T.setVm vm₁)) hU1⟩
  have hlocs : ∀ q ∈ locs ++ L, cr_lc lo s q.base := fun q h => by
    rcases List.mem_append.mp h with h | h
    · exact hq q h
    · refine ⟨(hL q h).1, fun c0 h0 => ?_⟩
      obtain ⟨c', g1, g2, -⟩ := X₁.same.2.2.2.2.2 _ c0 h0
      have g3 := (hL q h).2 c' g1
      have g4 : c'.vm = c0.vm := by rw [g2]
      rw [← g4]
      exact g3
  have hgrow : H.size ≤ s₂.heap.size := by
    have h9 : (T.setVm vm₁).heap.size ≤ s₂.heap.size := hFE.2.2.1
    rw [← hT]
    exact h9
  rcases hO with ⟨v, rfl, hQ⟩ | ⟨a, kd, rfl, hEx, hQ⟩
  · obtain ⟨T', X', -, -, e2⟩ := X₁.outOf (g := F0 m pc ls r) rfl hdg hend hFE.1 hFE.2
    have eh : T'.heap = s₂.heap := by rw [e2]; rfl
    obtain ⟨t, a1, b1⟩ := hK _ _ _ _ _ _ (hret v s₂.heap hQ hgrow) ls (locs ++ L) hl hlocs T' eh X'
    refine ⟨t, hstp t (fun acts => ?_), b1⟩
    rw [doInvoke_state]
    rw [e2] at hs
    exact hs.trans a1
  · obtain ⟨T', X', -, -, e2⟩ := X₁.outOfThrown (g := F0 m pc ls r) rfl hend hFE.1 hFE.2
    have eh : T'.heap = s₂.heap := by rw [e2]; rfl
    obtain ⟨z1, z2, z3, z4, z5⟩ := X'.leaveThrown a (g := F0 m pc ls r) rfl rfl rfl hout hlocks
    refine ⟨_, hstp _ (fun acts => ?_), .threw a, z2, z3, Or.inr ⟨a, kd, rfl, ?_, ?_⟩, locs ++ L, ⟨z4, z5.mono hk' hn'⟩, hlocs⟩
    · rw [doInvoke_state]
      rw [e2] at hs
      exact hs.trans z1
    · obtain ⟨cell, c1, c2, c3⟩ := hEx
      refine ⟨cell, ?_, c2, ?_⟩
      · show T'.heap[a]? = some cell
        rw [eh]; exact c1
      · have h9 : (T.setVm vm₁).vm.findClass (cr_ex kd) = some cell.cls := c3
        rw [X₁.warmed.alike.findClass] at h9
        exact h9
    · show Q (.inr kd) T'.heap
      rw [eh]
      exact hthr kd _ hQ hgrow
end CR4
section CR5
variable {p : Program} {l : Launch} {e : Env} {R : Room} {s : State} {m : MethodId} {args : Array Value} {below : List Frame} {meth : Method} {c : Code} {lo mc ms d : Nat} {Q : cr_Q}
variable {cc : ByteArray} {pc nx : Nat} {D : va_G} {cl : List vw_C} {tys : List (ClassId × FieldType)} {U : State → Prop} {own : String} {index na : Nat} {y : MethodName} {bytes : ByteArray} {maxL nL : Nat} {ret : Option FieldType}
/-- a static call of na arguments -/
def cr_calS (l : Launch) (U : State → Prop) (lo : Nat) (y : MethodName) (cw : Cond) (d mc ms : Nat) (na nL nx : Nat) : cr_T := fun K Q lv st H k n =>
  lv.length = nL ∧ cr_tk na [] st (fun av r => cr_after l U lo y cw d mc ms nx K Q lv av r H k n)
/-- a call on an object of class ci, of na arguments beside it -/
def cr_calV (D : va_G) (cl : List vw_C) (l : Launch) (U : State → Prop) (lo : Nat) (ci : Nat) (y : MethodName) (cw : Cond) (d mc ms : Nat) (na nL nx : Nat) : cr_T := fun K Q lv st H k n =>
  lv.length = nL ∧ cr_tk (na + 1) [] st (fun av r => match av with | .ref b :: As => ∃ fs, va_at D cl (b, .inr (ci, fs)) H ∧ cr_after l U lo y cw d mc ms nx K Q lv (.ref b :: As) r H k n | _ => False)
/-- a constructor's call -/
def cr_calI (l : Launch) (U : State → Prop) (lo : Nat) (y : MethodName) (cw : Cond) (d mc ms : Nat) (na nL nx : Nat) : cr_T := fun K Q lv st H k n =>
  lv.length = nL ∧ cr_tk (na + 1) [] st (fun av r => match av with | .ref b :: As => cr_after l U lo y cw d mc ms nx K Q lv (.ref b :: As) r H k n | _ => False)
/-- what the tables say of a callee without handlers -/
theorem cr_callee (hst : cr_St U) (hcU : ∀ V, U V → (Cond.code y bytes maxL ret).before #[] V = true ∧ (Cond.initialized y.cls).before #[] V = true) (hU : U s) : (∀ (a' : Array Value) (V : State), s.WarmedH V.vm → (Cond.code y bytes maxL ret).before a' V = true) ∧
    ∀ V : State, s.WarmedH V.vm → ∀ mk, V.methodNamed? y = some mk → (∃ methY cY, V.vm.method? mk = some methY ∧ methY.code = some cY ∧ cY.maxLocals = maxL) ∧ ∃ kY, V.vm.classes[mk.cls]? = some kY ∧ kY.init = .initialized := by
  refine ⟨fun a' V hW => va_any rfl (hcU V (hst s V hW hU)).1, fun V hW mk hn => ?_⟩
  obtain ⟨h1, h2⟩ := hcU V (hst s V hW hU)
  obtain ⟨methY, cY, g1, g2, -, g3, -⟩ := Cond.code_spec hn h1
  obtain ⟨kY, hkY, -⟩ := className_of_methodNamed hn
  exact ⟨⟨methY, cY, g1, g2, g3⟩, kY, hkY, Cond.initialized_spec (findClass_of_methodNamed hn) hkY h2⟩
theorem cr_calS_ok (hx : p.tables.exec = Jvm.exec) (hb : c.code = cc) (hml : c.maxLocals = nL) (hown : s.vm.findClass own = some m.cls) (hlocks : meth.locks = false) (hU : U s) (hlo : lo ≤ s.heap.size) (hR : R = cr_rm d mc ms) (hst : cr_St U) (hout : ∀ x ∈ c.exceptionTable.toList, covers x pc = false)
    (hcU : ∀ V, U V → (Cond.code y bytes maxL ret).before #[] V = true ∧ (Cond.initialized y.cls).before #[] V = true) (hlink : (Cond.methodLink own index y).before args s = true ∨ ∃ host, (Cond.methodLinkNest own index y host).before args s = true) (hstat : (Cond.static y).before args s = true)
    (hy : y.cls ≠ "java/lang/invoke/MethodHandle" ∧ y.cls ≠ "java/lang/invoke/VarHandle") (hlen : (parseMethodDescriptor y.desc).map (fun d => d.parameters.length) = some na) (hmaxL : maxL ≤ 41) (hd : decode cc pc = .ok (.invokestatic index, 3)) (hn : pc + 3 = nx) :
    cr_Snd p l e R s m args below meth c lo mc ms Q pc (cr_calS l U lo y (.code y bytes maxL ret) d mc ms na nL nx) := by
  intro K lv st H k n hK h ls locs hl hq
  obtain ⟨hnL, h⟩ := h
  obtain ⟨vs, r, e1, e2, h⟩ := cr_tk_sp h
  rw [List.append_nil] at h
  obtain ⟨hcw, hcY⟩ := cr_callee hst hcU hU
  refine cr_cal (av := vs.reverse) (r := r) (maxL := maxL) (ig := .invokestatic index) (len := 3) hK hR hU hst hlo hlocks hout (by rw [hnL]; exact hml) hmaxL (by rw [hb]; exact hd) hn hl hq hcw hcY ?_ h
  intro T hT X
  have hcode := (hcU s hU).1
  have hini := (hcU s hU).2
  obtain ⟨mk, hnamed⟩ := Cond.code_named hcode
  obtain ⟨methM, cM, hmethM, -, -, -, -, -, -, hsigM⟩ := Cond.code_spec hnamed hcode
  have hstatic : methM.isStatic = true := Cond.static_spec hnamed hmethM hstat
  obtain ⟨kP, hkP, -⟩ := className_of_methodNamed hnamed
  have hinitP : kP.init = .initialized := Cond.initialized_spec (findClass_of_methodNamed hnamed) hkP hini
  have hle : vs.reverse.length = methM.sig.parameters.length := by
    rw [hsigM] at hlen
    rw [List.length_reverse, e2]
    exact (Option.some.inj hlen).symm
  rcases hlink with hlink | ⟨host, hlink⟩
  · obtain ⟨vm₁, X₁, hstep₁⟩ := X.invokestatic hx hown hlink hnamed hmethM hstatic hkP hinitP hy (g := F0 m pc ls st) rfl (argsL := vs.reverse) (rest := r) hle (by rw [List.reverse_reverse]; exact e1) (by rw [hb]; exact hd)
    exact ⟨vm₁, mk, X₁, X₁.named hnamed, hstep₁⟩
  · obtain ⟨vm₁, X₁, hstep₁⟩ := X.invokestaticNest hx hown hlink hnamed hmethM hstatic hkP hinitP hy (g := F0 m pc ls st) rfl (argsL := vs.reverse) (rest := r) hle (by rw [List.reverse_reverse]; exact e1) (by rw [hb]; exact hd)
    exact ⟨vm₁, mk, X₁, X₁.named hnamed, hstep₁⟩
theorem cr_rev {vs As : List Value} {v : Value} (h : vs.reverse = v :: As) : vs = As.reverse ++ [v] := by
  have h1 := congrArg List.reverse h
  simpa using h1
theorem cr_calV_ok {C : String} {Tf : u_T} {N ci : Nat} (hx : p.tables.exec = Jvm.exec) (hb : c.code = cc) (hml : c.maxLocals = nL) (hown : s.vm.findClass own = some m.cls) (hlocks : meth.locks = false) (hU : U s) (hlo : lo ≤ s.heap.size) (hR : R = cr_rm d mc ms) (hst : cr_St U) (hout : ∀ x ∈ c.exceptionTable.toList, covers x pc = false)
    (hKn : va_K D cl tys s) (hc : cl[ci]? = some (C, Tf, N)) (hcU : ∀ V, U V → (Cond.code y bytes maxL ret).before #[] V = true ∧ (Cond.initialized y.cls).before #[] V = true) (hlink : (Cond.methodLink own index y).before args s = true ∨ ∃ host, (Cond.methodLinkNest own index y host).before args s = true) (hinst : (Cond.instanceMethod y).before args s = true) (hsel : (Cond.selects C y y).before args s = true)
    (hy : y.cls ≠ "java/lang/invoke/MethodHandle" ∧ y.cls ≠ "java/lang/invoke/VarHandle") (hlen : (parseMethodDescriptor y.desc).map (fun d => d.parameters.length) = some na) (hmaxL : maxL ≤ 41) (hd : decode cc pc = .ok (.invokevirtual index, 3)) (hn : pc + 3 = nx) :
    cr_Snd p l e R s m args below meth c lo mc ms Q pc (cr_calV D cl l U lo ci y (.code y bytes maxL ret) d mc ms na nL nx) := by
  intro K lv st H k n hK h ls locs hl hq
  obtain ⟨hnL, h⟩ := h
  obtain ⟨vs, r, e1, e2, h⟩ := cr_tk_sp h
  rw [List.append_nil] at h
  match e3 : vs.reverse, h with
  | .ref b :: As, ⟨fs, hat, h⟩ =>
    have e4 := cr_rev e3
    obtain ⟨hcw, hcY⟩ := cr_callee hst hcU hU
    refine cr_cal (av := .ref b :: As) (r := r) (maxL := maxL) (ig := .invokevirtual index) (len := 3) hK hR hU hst hlo hlocks hout (by rw [hnL]; exact hml) hmaxL (by rw [hb]; exact hd) hn hl hq hcw hcY ?_ h
    intro T hT X
    have hcode := (hcU s hU).1
    obtain ⟨mk, methM, hnamed, hmethM, hstM, habM⟩ := Cond.instanceMethod_spec hinst
    obtain ⟨methM', cM, hmethM', -, -, -, -, -, -, hsigM⟩ := Cond.code_spec hnamed hcode
    cases hmethM.symm.trans hmethM'
    obtain ⟨cellB, hcB, hoB, hclB⟩ := va_recv hKn (cr_one hat) hc (q0 := 0) rfl
    obtain ⟨c2, r2, m2, q1, q2, q3, q4, kP, hkP, hkPi⟩ := Cond.selects_spec hsel
    cases hclB.symm.trans q1
    cases (State.methodFound?_of_named hnamed hy).symm.trans q2
    cases hnamed.symm.trans q3
    have hselP : selectMethod e.platform s.vm cellB.cls mk = .method mk := by rw [Launch.admits_selectMethod X.admits]; exact q4
    have hle : As.length = methM.sig.parameters.length := by
      rw [hsigM] at hlen
      have h9 : As.length + 1 = na + 1 := by rw [← e2, e4]; simp
      have h8 : methM.sig.parameters.length = na := Option.some.inj hlen
      omega
    have hstk : st = As.reverse ++ .ref b :: r := by rw [e1, e4]; simp
    rcases hlink with hlink | ⟨host, hlink⟩
    · obtain ⟨vm₁, X₁, hstep₁⟩ := X.invokevirtual hx hown hlink hnamed hmethM hstM hkP hkPi hy (a := b) (cell := cellB) (by rw [hT]; exact hcB) (fun z h => by rw [h] at hoB; cases hoB) hselP hmethM habM hkP hkPi (g := F0 m pc ls st) rfl (argsL := As) (rest := r) hle hstk (by rw [hb]; exact hd)
      exact ⟨vm₁, mk, X₁, X₁.named hnamed, hstep₁⟩
    · obtain ⟨vm₁, X₁, hstep₁⟩ := X.invokevirtualNest hx hown hlink hnamed hmethM hstM hkP hkPi hy (a := b) (cell := cellB) (by rw [hT]; exact hcB) (fun z h => by rw [h] at hoB; cases hoB) hselP hmethM habM hkP hkPi (g := F0 m pc ls st) rfl (argsL := As) (rest := r) hle hstk (by rw [hb]; exact hd)
      exact ⟨vm₁, mk, X₁, X₁.named hnamed, hstep₁⟩
theorem cr_calF_ok {C : String} {Tf : u_T} {N ci count : Nat} {x : MethodName} (hx : p.tables.exec = Jvm.exec) (hb : c.code = cc) (hml : c.maxLocals = nL) (hown : s.vm.findClass own = some m.cls) (hlocks : meth.locks = false) (hU : U s) (hlo : lo ≤ s.heap.size) (hR : R = cr_rm d mc ms) (hst : cr_St U) (hout : ∀ x ∈ c.exceptionTable.toList, covers x pc = false)
    (hKn : va_K D cl tys s) (hc : cl[ci]? = some (C, Tf, N)) (hcU : ∀ V, U V → (Cond.code y bytes maxL ret).before #[] V = true ∧ (Cond.initialized y.cls).before #[] V = true) (hlink : (Cond.methodLink own index x).before args s = true) (hdecl : (Cond.declares x).before args s = true) (hface : (Cond.interfaceMethod x.cls x.cls x.name x.desc).before args s = true)
    (hsel : (Cond.selects C x y).before args s = true) (hinst : (Cond.instanceMethod y).before args s = true) (hpub : (Cond.publicMethod y).before args s = true) (hunh : (Cond.unhidden C x.name x.desc).before args s = true) (hcast : (Cond.castable C x.cls).before args s = true)
    (hy : x.cls ≠ "java/lang/invoke/MethodHandle" ∧ x.cls ≠ "java/lang/invoke/VarHandle") (hlen : (parseMethodDescriptor x.desc).map (fun d => d.parameters.length) = some na) (hmaxL : maxL ≤ 41) (hd : decode cc pc = .ok (.invokeinterface index count, 5)) (hn : pc + 5 = nx) :
    cr_Snd p l e R s m args below meth c lo mc ms Q pc (cr_calV D cl l U lo ci y (.code y bytes maxL ret) d mc ms na nL nx) := by
  intro K lv st H k n hK h ls locs hl hq
  obtain ⟨hnL, h⟩ := h
  obtain ⟨vs, r, e1, e2, h⟩ := cr_tk_sp h
  rw [List.append_nil] at h
  match e3 : vs.reverse, h with
  | .ref b :: As, ⟨fs, hat, h⟩ =>
    have e4 := cr_rev e3
    obtain ⟨hcw, hcY⟩ := cr_callee hst hcU hU
    refine cr_cal (av := .ref b :: As) (r := r) (maxL := maxL) (ig := .invokeinterface index count) (len := 5) hK hR hU hst hlo hlocks hout (by rw [hnL]; exact hml) hmaxL (by rw [hb]; exact hd) hn hl hq hcw hcY ?_ h
    intro T hT X
    obtain ⟨cellB, hcB, hoB, hclB⟩ := va_recv hKn (cr_one hat) hc (q0 := 0) rfl
    obtain ⟨r0, rr, hn0, hrm, hstR, hsigR⟩ := Cond.declares_spec hdecl
    obtain ⟨cL, kL, r1, hcL, hkL, hiL, hfoundL, hn1⟩ := Cond.interfaceMethod_spec hface
    cases hn0.symm.trans hn1
    have hr0cls : r0.cls = cL := Option.some.inj ((findClass_of_methodNamed hn0).symm.trans hcL)
    obtain ⟨hnameR, hdescR⟩ := name_of_methodNamed hn0 hrm
    obtain ⟨mk, methM, hnamed, hmethM, -, habM⟩ := Cond.instanceMethod_spec hinst
    obtain ⟨c2, r2, m2, q1, q2, q3, q4, -⟩ := Cond.selects_spec hsel
    cases hclB.symm.trans q1
    cases hfoundL.symm.trans q2
    cases hnamed.symm.trans q3
    have hselP : selectMethod e.platform s.vm cellB.cls r0 = .method mk := by rw [Launch.admits_selectMethod X.admits]; exact q4
    have hpubM : hasFlag methM.accessFlags Acc.public_ = true := Cond.publicMethod_spec hnamed hmethM hpub
    have hway : ((cellB.cls :: s.vm.superclasses cellB.cls).any fun k => (declaredIn s.vm rr.name rr.desc k).any fun (_, z) => z.isPrivate || z.isStatic) = false := by
      rw [hnameR, hdescR]; exact Cond.unhidden_spec hclB hunh
    obtain ⟨c3, t3, w1, w2, w3⟩ := Cond.castable_spec hcast
    cases hclB.symm.trans w1
    cases hcL.symm.trans w2
    obtain ⟨kB, hkB⟩ := Vm.classAt_of_findClass hclB
    have hle : As.length = rr.sig.parameters.length := by
      rw [hsigR] at hlen
      have h9 : As.length + 1 = na + 1 := by rw [← e2, e4]; simp
      have h8 : rr.sig.parameters.length = na := Option.some.inj hlen
      omega
    have hstk : st = As.reverse ++ .ref b :: r := by rw [e1, e4]; simp
    obtain ⟨vm₁, X₁, hstep₁⟩ := X.invokeinterface hx hown hlink hn0 hrm hstR (by rw [hr0cls]; exact hkL) hiL hy (a := b) (cell := cellB) (kcell := kB) (by rw [hT]; exact hcB)
      (fun z h => by rw [h] at hoB; cases hoB) hkB (by rw [hr0cls]; exact w3) hselP hmethM hway hpubM habM (g := F0 m pc ls st) rfl (argsL := As) (rest := r) hle hstk (by rw [hb]; exact hd)
    exact ⟨vm₁, mk, X₁, X₁.named hnamed, hstep₁⟩
theorem cr_calI_ok (hx : p.tables.exec = Jvm.exec) (hb : c.code = cc) (hml : c.maxLocals = nL) (hown : s.vm.findClass own = some m.cls) (hlocks : meth.locks = false) (hU : U s) (hlo : lo ≤ s.heap.size) (hR : R = cr_rm d mc ms) (hst : cr_St U) (hout : ∀ x ∈ c.exceptionTable.toList, covers x pc = false)
    (hcU : ∀ V, U V → (Cond.code y bytes maxL none).before #[] V = true ∧ (Cond.initialized y.cls).before #[] V = true) (hlink : (Cond.methodLink own index y).before args s = true ∨ ∃ host, (Cond.methodLinkNest own index y host).before args s = true) (hinst : (Cond.instanceMethod y).before args s = true) (hy1 : y.name = "<init>")
    (hy : y.cls ≠ "java/lang/invoke/MethodHandle" ∧ y.cls ≠ "java/lang/invoke/VarHandle") (hlen : (parseMethodDescriptor y.desc).map (fun d => d.parameters.length) = some na) (hmaxL : maxL ≤ 41) (hd : decode cc pc = .ok (.invokespecial index, 3)) (hn : pc + 3 = nx) :
    cr_Snd p l e R s m args below meth c lo mc ms Q pc (cr_calI l U lo y (.code y bytes maxL none) d mc ms na nL nx) := by
  intro K lv st H k n hK h ls locs hl hq
  obtain ⟨hnL, h⟩ := h
  obtain ⟨vs, r, e1, e2, h⟩ := cr_tk_sp h
  rw [List.append_nil] at h
  match e3 : vs.reverse, h with
  | .ref b :: As, h =>
    have e4 := cr_rev e3
    obtain ⟨hcw, hcY⟩ := cr_callee hst hcU hU
    refine cr_cal (av := .ref b :: As) (r := r) (maxL := maxL) (ig := .invokespecial index) (len := 3) hK hR hU hst hlo hlocks hout (by rw [hnL]; exact hml) hmaxL (by rw [hb]; exact hd) hn hl hq hcw hcY ?_ h
    intro T hT X
    have hcode := (hcU s hU).1
    have hpl : e.platform.magicAccessors = ({} : Platform).magicAccessors := by rw [X.admits.platform]
    have hle : ∀ sig, parseMethodDescriptor y.desc = some sig → As.length = sig.parameters.length := by
      intro sig hsig
      rw [hsig] at hlen
      have h9 : As.length + 1 = na + 1 := by rw [← e2, e4]; simp
      have h8 : sig.parameters.length = na := Option.some.inj hlen
      omega
    have hstk : st = As.reverse ++ .ref b :: r := by rw [e1, e4]; simp
    rcases hlink with hlink | ⟨host, hlink⟩
    · obtain ⟨mk, methM, cM, kP, vm₁, hnamed, -, -, -, -, -, -, -, hW₁, hstep₁⟩ := Steps.initColdArgs (e := e) X.here hx X.warmed hpl hown hy1 hy hlink hinst (va_any rfl hcode) (f := F0 m pc ls st) rfl hle hstk (by rw [hb]; exact hd)
      have X₁ := X.noted hW₁
      exact ⟨vm₁, mk, X₁, X₁.named hnamed, hstep₁⟩
    · obtain ⟨mk, methM, cM, kP, vm₁, hnamed, -, -, -, -, -, -, -, hW₁, hstep₁⟩ := Steps.initColdArgsNest (e := e) X.here hx X.warmed hpl hown hy1 hy hlink hinst (va_any rfl hcode) (f := F0 m pc ls st) rfl hle hstk (by rw [hb]; exact hd)
      have X₁ := X.noted hW₁
      exact ⟨vm₁, mk, X₁, X₁.named hnamed, hstep₁⟩
/-- Object.<init>() -/
def cr_oinit (d nL nx : Nat) : cr_T := fun K _ lv st H k n => match st with
  | .ref _ :: r => lv.length = nL ∧ 1 ≤ d ∧ (r.map fun v => v.category).sum ≤ 8 ∧ K nx lv r H k n
  | _ => False
theorem cr_oinit_ok (hx : p.tables.exec = Jvm.exec) (hb : c.code = cc) (hml : c.maxLocals = nL) (hown : s.vm.findClass own = some m.cls) (hR : R = cr_rm d mc ms) (hlink : (Cond.methodLink own index Lib.objectInit).before args s = true) (hinst : (Cond.instanceMethod Lib.objectInit).before args s = true) (hcode : (Cond.code Lib.objectInit ⟨#[0xb1]⟩ 1 none).before args s = true)
    (hd : decode cc pc = .ok (.invokespecial index, 3)) (hn : pc + 3 = nx) : cr_Snd p l e R s m args below meth c lo mc ms Q pc (cr_oinit d nL nx) := by
  subst hn
  intro K lv st H k n hK h ls locs hl hq
  match st, h with
  | .ref a :: r, ⟨h1, h2, h3, h4⟩ =>
    refine W.objInit hx hb hown hlink hinst hcode rfl (by rw [hml, ← h1]; exact hl.1) rfl hd (by rw [hR]; exact h2) ?_ ?_
    · rw [hR]
      show 2 * JFrame.monitorRoom _ + _ + 12 ≤ 60 * d
      have h9 : 2 * (F0 m pc ls (.ref a :: r)).monitorRoom = 0 := by simp [JFrame.monitorRoom]
      omega
    · exact hK _ _ _ _ _ _ h4 ls locs hl hq
end CR5
end
section
/-! THE LIGHT MACHINE, its throws: an exception of the program's own is made and thrown; the walk is begun anew there ('cr_rebase'), so that what was written before stays said. -/
section CR6
variable {p : Program} {l : Launch} {e : Env} {R : Room} {s : State} {m : MethodId} {args : Array Value} {below : List Frame} {meth : Method} {c : Code} {T : State} {locs : List Loc} {k n : Nat}
theorem cr_hears {u v : State} (h : u.vm.Alike v.vm) (hh : u.hears m below = true) : v.hears m below = true := by
  cases below with
  | nil => simp only [State.hears] at hh ⊢; rw [h.method?]; exact hh
  | cons f r =>
    cases f with
    | java g =>
      have e1 : v.code? g.method = u.code? g.method := by rw [State.code?_eq, State.code?_eq, h.method?]
      simp only [State.hears] at hh ⊢
      rw [e1]
      exact hh
    | native _ => rfl
    | proc _ => rfl
    | _ => simp only [State.hears] at hh ⊢; rw [h.method?]; exact hh
/-- the same place, said of the state itself as the invocation's -/
theorem cr_rebase (X : Stand p l e R s m args below meth c T locs k n) {R' : Room} (hf : R'.frames ≤ R.frames) (hl : R'.locals ≤ R.locals) (hc : k + R'.cells ≤ R.cells) (hs : n + R'.slots ≤ R.slots) : Stand p l e R' (T.setFrames (.invoking m args :: below)) m args below meth c T [] 0 0 := by
  obtain ⟨g₀, hfr⟩ := X.frames_eq
  have hcur : T.cur < T.threads.size := State.cur_lt_of_frames hfr
  obtain ⟨th, hth, -⟩ := State.frames_cons hfr
  have hf9 : (T.setFrames (.invoking m args :: below)).frames = .invoking m args :: below := State.frames_setFrames _ hcur
  obtain ⟨th9, hth9, -⟩ := State.frames_cons hf9
  have hcur9 : (T.setFrames (.invoking m args :: below)).cur < (T.setFrames (.invoking m args :: below)).threads.size := State.cur_lt_of_frames hf9
  refine ⟨X.admits, X.cas, X.clock, hf9, ?_, cr_hears (u := s) X.warmed.alike X.hears, X.method', X.code, X.here, X.tail, State.WarmedH.refl _, (State.stackLimits_setFrames _ _ _).symm, (State.stackBytes_setFrames _ _).symm, ?_⟩
  · have hr := X.room
    have hh := X.heapSize
    have hu := X.used
    have hb := X.book
    have hlim := X.limits
    have hby := X.bytes
    simp only [State.hasRoom, Bool.and_eq_true, decide_eq_true_eq] at hr ⊢
    rw [State.localsInUse_invoking hf9 X.method' X.code, hf9, State.stackLimits_setFrames, State.stackBytes_setFrames, hlim, hby]
    rw [State.localsInUse_invoking X.frames X.method X.code, X.frames] at hr
    refine ⟨⟨⟨⟨by omega, ⟨by omega, by omega, by omega, by omega, hr.1.1.1.2.2.2.2.2⟩⟩, ?_⟩, ?_⟩, hb⟩
    · show T.heap.size + R'.cells ≤ _
      omega
    · show T.slotsUsed + R'.slots ≤ _
      omega
  · have h := (State.sameButNew.refl (T.setFrames (.invoking m args :: below)) hth9).setFrames T.frames hcur9
    rw [State.setFrames_setFrames, State.setFrames_self hth] at h
    exact h
end CR6
end
section
/-! NAMES, by program out of the Statement: classes, methods, words by their places -/
def R_C : String := "CardRights"
def T_C : u_T := fun k => match k with
  | 0 => ("CardRights", "rooms", "Ljava/util/List;", true)
  | 1 => ("CardRights", "doors", "Ljava/util/List;", true)
  | 2 => ("CardRights", "persons", "Ljava/util/List;", true)
  | 3 => ("CardRights", "cards", "Ljava/util/List;", true)
  | 4 => ("CardRights", "rights", "Ljava/util/List;", true)
  | 5 => ("CardRights", "toldSoFar", "LCardRights$Knowledge;", true)
  | 6 => ("CardRights", "findings", "LCardRights$Findings;", true)
  | 7 => ("CardRights", "used", "LCardRights$Uses;", true)
  | 8 => ("CardRights", "needs", "LCardRights$Needs;", true)
  | _ => ("CardRights", "latest", "I", false)
def tt_C : Nat → FieldType := fun k => match k with
  | 0 => (.object "java/util/List")
  | 1 => (.object "java/util/List")
  | 2 => (.object "java/util/List")
  | 3 => (.object "java/util/List")
  | 4 => (.object "java/util/List")
  | 5 => (.object "CardRights$Knowledge")
  | 6 => (.object "CardRights$Findings")
  | 7 => (.object "CardRights$Uses")
  | 8 => (.object "CardRights$Needs")
  | _ => .int
theorem nm_C : ∀ a, a < 10 → ∀ b, b < 10 → a ≠ b → (T_C a).2.1 ≠ (T_C b).2.1 := by decide +kernel
theorem ty_C : ∀ k, k < 10 → parseFieldDescriptor (T_C k).2.2.1 = some (tt_C k) := by decide +kernel
def R_Cd : String := "CardRights$Card"
def T_Cd : u_T := fun k => match k with
  | 0 => ("CardRights$Card", "number", "I", true)
  | 1 => ("CardRights$Card", "owner", "LCardRights$Person;", true)
  | _ => ("CardRights$Card", "until", "I", true)
def tt_Cd : Nat → FieldType := fun k => match k with
  | 0 => .int
  | 1 => (.object "CardRights$Person")
  | _ => .int
theorem nm_Cd : ∀ a, a < 3 → ∀ b, b < 3 → a ≠ b → (T_Cd a).2.1 ≠ (T_Cd b).2.1 := by decide +kernel
theorem ty_Cd : ∀ k, k < 3 → parseFieldDescriptor (T_Cd k).2.2.1 = some (tt_Cd k) := by decide +kernel
def R_Dr : String := "CardRights$Door"
def T_Dr : u_T := fun k => match k with
  | 0 => ("CardRights$Door", "number", "I", true)
  | 1 => ("CardRights$Door", "roomA", "LCardRights$Room;", true)
  | 2 => ("CardRights$Door", "roomB", "LCardRights$Room;", true)
  | 3 => ("CardRights$Door", "wantsTwo", "Z", false)
  | 4 => ("CardRights$Door", "open", "Z", false)
  | 5 => ("CardRights$Door", "asItIsSince", "I", false)
  | 6 => ("CardRights$Door", "airlocks", "I", false)
  | 7 => ("CardRights$Door", "isOff", "Z", false)
  | 8 => ("CardRights$Door", "knewWhenCutOff", "LCardRights$Knowledge;", true)
  | _ => ("CardRights$Door", "rows", "Ljava/util/List;", true)
def tt_Dr : Nat → FieldType := fun k => match k with
  | 0 => .int
  | 1 => (.object "CardRights$Room")
  | 2 => (.object "CardRights$Room")
  | 3 => .boolean
  | 4 => .boolean
  | 5 => .int
  | 6 => .int
  | 7 => .boolean
  | 8 => (.object "CardRights$Knowledge")
  | _ => (.object "java/util/List")
theorem nm_Dr : ∀ a, a < 10 → ∀ b, b < 10 → a ≠ b → (T_Dr a).2.1 ≠ (T_Dr b).2.1 := by decide +kernel
theorem ty_Dr : ∀ k, k < 10 → parseFieldDescriptor (T_Dr k).2.2.1 = some (tt_Dr k) := by decide +kernel
def R_Fi : String := "CardRights$Findings"
def T_Fi : u_T := fun k => match k with
  | 0 => ("CardRights$Findings", "parts", "[I", true)
  | _ => ("CardRights$Findings", "count", "I", false)
def tt_Fi : Nat → FieldType := fun k => match k with
  | 0 => (.array .int)
  | _ => .int
theorem nm_Fi : ∀ a, a < 2 → ∀ b, b < 2 → a ≠ b → (T_Fi a).2.1 ≠ (T_Fi b).2.1 := by decide +kernel
theorem ty_Fi : ∀ k, k < 2 → parseFieldDescriptor (T_Fi k).2.2.1 = some (tt_Fi k) := by decide +kernel
def R_Kn : String := "CardRights$Knowledge"
def T_Kn : u_T := fun k => match k with
  | 0 => ("CardRights$Knowledge", "cardCount", "I", false)
  | 1 => ("CardRights$Knowledge", "rightCount", "I", false)
  | 2 => ("CardRights$Knowledge", "lostFrom", "[I", true)
  | _ => ("CardRights$Knowledge", "endedFrom", "[I", true)
def tt_Kn : Nat → FieldType := fun k => match k with
  | 0 => .int
  | 1 => .int
  | 2 => (.array .int)
  | _ => (.array .int)
theorem nm_Kn : ∀ a, a < 4 → ∀ b, b < 4 → a ≠ b → (T_Kn a).2.1 ≠ (T_Kn b).2.1 := by decide +kernel
theorem ty_Kn : ∀ k, k < 4 → parseFieldDescriptor (T_Kn k).2.2.1 = some (tt_Kn k) := by decide +kernel
def R_Ne : String := "CardRights$Needs"
def T_Ne : u_T := fun k => match k with
  | 0 => ("CardRights$Needs", "sets", "[I", true)
  | _ => ("CardRights$Needs", "count", "I", false)
def tt_Ne : Nat → FieldType := fun k => match k with
  | 0 => (.array .int)
  | _ => .int
theorem nm_Ne : ∀ a, a < 2 → ∀ b, b < 2 → a ≠ b → (T_Ne a).2.1 ≠ (T_Ne b).2.1 := by decide +kernel
theorem ty_Ne : ∀ k, k < 2 → parseFieldDescriptor (T_Ne k).2.2.1 = some (tt_Ne k) := by decide +kernel
def R_Pe : String := "CardRights$Person"
def T_Pe : u_T := fun k => match k with
  | 0 => ("CardRights$Person", "group", "I", true)
  | _ => ("CardRights$Person", "in", "LCardRights$Room;", false)
def tt_Pe : Nat → FieldType := fun k => match k with
  | 0 => .int
  | _ => (.object "CardRights$Room")
theorem nm_Pe : ∀ a, a < 2 → ∀ b, b < 2 → a ≠ b → (T_Pe a).2.1 ≠ (T_Pe b).2.1 := by decide +kernel
theorem ty_Pe : ∀ k, k < 2 → parseFieldDescriptor (T_Pe k).2.2.1 = some (tt_Pe k) := by decide +kernel
def R_Ri : String := "CardRights$Right"
def T_Ri : u_T := fun k => match k with
  | 0 => ("CardRights$Right", "group", "I", true)
  | 1 => ("CardRights$Right", "zone", "I", true)
  | 2 => ("CardRights$Right", "from", "I", true)
  | 3 => ("CardRights$Right", "to", "I", true)
  | _ => ("CardRights$Right", "since", "I", true)
def tt_Ri : Nat → FieldType := fun k => match k with
  | 0 => .int
  | 1 => .int
  | 2 => .int
  | 3 => .int
  | _ => .int
theorem nm_Ri : ∀ a, a < 5 → ∀ b, b < 5 → a ≠ b → (T_Ri a).2.1 ≠ (T_Ri b).2.1 := by decide +kernel
theorem ty_Ri : ∀ k, k < 5 → parseFieldDescriptor (T_Ri k).2.2.1 = some (tt_Ri k) := by decide +kernel
def R_Ro : String := "CardRights$Room"
def T_Ro : u_T := fun k => match k with
  | 0 => ("CardRights$Room", "number", "I", true)
  | _ => ("CardRights$Room", "zone", "I", true)
def tt_Ro : Nat → FieldType := fun k => match k with
  | 0 => .int
  | _ => .int
theorem nm_Ro : ∀ a, a < 2 → ∀ b, b < 2 → a ≠ b → (T_Ro a).2.1 ≠ (T_Ro b).2.1 := by decide +kernel
theorem ty_Ro : ∀ k, k < 2 → parseFieldDescriptor (T_Ro k).2.2.1 = some (tt_Ro k) := by decide +kernel
def R_Rw : String := "CardRights$Row"
def T_Rw : u_T := fun k => match k with
  | 0 => ("CardRights$Row", "card", "LCardRights$Card;", true)
  | 1 => ("CardRights$Row", "room", "LCardRights$Room;", true)
  | _ => ("CardRights$Row", "minute", "I", true)
def tt_Rw : Nat → FieldType := fun k => match k with
  | 0 => (.object "CardRights$Card")
  | 1 => (.object "CardRights$Room")
  | _ => .int
theorem nm_Rw : ∀ a, a < 3 → ∀ b, b < 3 → a ≠ b → (T_Rw a).2.1 ≠ (T_Rw b).2.1 := by decide +kernel
theorem ty_Rw : ∀ k, k < 3 → parseFieldDescriptor (T_Rw k).2.2.1 = some (tt_Rw k) := by decide +kernel
def R_Us : String := "CardRights$Uses"
def T_Us : u_T := fun k => match k with
  | 0 => ("CardRights$Uses", "words", "[J", true)
  | _ => ("CardRights$Uses", "count", "I", false)
def tt_Us : Nat → FieldType := fun k => match k with
  | 0 => (.array .long)
  | _ => .int
theorem nm_Us : ∀ a, a < 2 → ∀ b, b < 2 → a ≠ b → (T_Us a).2.1 ≠ (T_Us b).2.1 := by decide +kernel
theorem ty_Us : ∀ k, k < 2 → parseFieldDescriptor (T_Us k).2.2.1 = some (tt_Us k) := by decide +kernel
def R_M : String := "CardRightsModel"
def T_M : u_T := fun k => match k with
  | 0 => ("CardRightsModel", "code", "I", false)
  | 1 => ("CardRightsModel", "now", "I", false)
  | 2 => ("CardRightsModel", "rooms", "I", false)
  | 3 => ("CardRightsModel", "zone", "[I", true)
  | 4 => ("CardRightsModel", "doors", "I", false)
  | 5 => ("CardRightsModel", "roomA", "[I", true)
  | 6 => ("CardRightsModel", "roomB", "[I", true)
  | 7 => ("CardRightsModel", "two", "[Z", true)
  | 8 => ("CardRightsModel", "open", "[Z", true)
  | 9 => ("CardRightsModel", "changed", "[I", true)
  | 10 => ("CardRightsModel", "known", "[I", true)
  | 11 => ("CardRightsModel", "airlock", "[Z", true)
  | 12 => ("CardRightsModel", "rows", "[I", true)
  | 13 => ("CardRightsModel", "rowCard", "[I", true)
  | 14 => ("CardRightsModel", "rowRoom", "[I", true)
  | 15 => ("CardRightsModel", "rowMinute", "[I", true)
  | 16 => ("CardRightsModel", "persons", "I", false)
  | 17 => ("CardRightsModel", "group", "[I", true)
  | 18 => ("CardRightsModel", "place", "[I", true)
  | 19 => ("CardRightsModel", "cards", "I", false)
  | 20 => ("CardRightsModel", "person", "[I", true)
  | 21 => ("CardRightsModel", "until", "[I", true)
  | 22 => ("CardRightsModel", "rights", "I", false)
  | 23 => ("CardRightsModel", "rightGroup", "[I", true)
  | 24 => ("CardRightsModel", "rightZone", "[I", true)
  | 25 => ("CardRightsModel", "rightFrom", "[I", true)
  | 26 => ("CardRightsModel", "rightTo", "[I", true)
  | 27 => ("CardRightsModel", "rightSince", "[I", true)
  | 28 => ("CardRightsModel", "tellings", "I", false)
  | 29 => ("CardRightsModel", "tellKind", "[I", true)
  | 30 => ("CardRightsModel", "tellWhich", "[I", true)
  | 31 => ("CardRightsModel", "tellMinute", "[I", true)
  | 32 => ("CardRightsModel", "uses", "I", false)
  | 33 => ("CardRightsModel", "use", "[I", true)
  | 34 => ("CardRightsModel", "against", "I", false)
  | 35 => ("CardRightsModel", "foundDoor", "[I", true)
  | 36 => ("CardRightsModel", "foundCard", "[I", true)
  | 37 => ("CardRightsModel", "foundMinute", "[I", true)
  | 38 => ("CardRightsModel", "foundWhy", "[I", true)
  | 39 => ("CardRightsModel", "wanted", "[Z", true)
  | _ => ("CardRightsModel", "want", "[I", true)
def tt_M : Nat → FieldType := fun k => match k with
  | 0 => .int
  | 1 => .int
  | 2 => .int
  | 3 => (.array .int)
  | 4 => .int
  | 5 => (.array .int)
  | 6 => (.array .int)
  | 7 => (.array .boolean)
  | 8 => (.array .boolean)
  | 9 => (.array .int)
  | 10 => (.array .int)
  | 11 => (.array .boolean)
  | 12 => (.array .int)
  | 13 => (.array .int)
  | 14 => (.array .int)
  | 15 => (.array .int)
  | 16 => .int
  | 17 => (.array .int)
  | 18 => (.array .int)
  | 19 => .int
  | 20 => (.array .int)
  | 21 => (.array .int)
  | 22 => .int
  | 23 => (.array .int)
  | 24 => (.array .int)
  | 25 => (.array .int)
  | 26 => (.array .int)
  | 27 => (.array .int)
  | 28 => .int
  | 29 => (.array .int)
  | 30 => (.array .int)
  | 31 => (.array .int)
  | 32 => .int
  | 33 => (.array .int)
  | 34 => .int
  | 35 => (.array .int)
  | 36 => (.array .int)
  | 37 => (.array .int)
  | 38 => (.array .int)
  | 39 => (.array .boolean)
  | _ => (.array .int)
theorem nm_M : ∀ a, a < 41 → ∀ b, b < 41 → a ≠ b → (T_M a).2.1 ≠ (T_M b).2.1 := by decide +kernel
theorem ty_M : ∀ k, k < 41 → parseFieldDescriptor (T_M k).2.2.1 = some (tt_M k) := by decide +kernel
def R_AL : String := "java/util/ArrayList"
def T_AL : u_T := fun k => match k with
  | 0 => ("java/util/ArrayList", "elementData", "[Ljava/lang/Object;", false)
  | 1 => ("java/util/ArrayList", "size", "I", false)
  | _ => ("java/util/AbstractList", "modCount", "I", false)
def tt_AL : Nat → FieldType := fun k => match k with
  | 0 => (.array (.object "java/lang/Object"))
  | 1 => .int
  | _ => .int
theorem nm_AL : ∀ a, a < 3 → ∀ b, b < 3 → a ≠ b → (T_AL a).2.1 ≠ (T_AL b).2.1 := by decide +kernel
theorem ty_AL : ∀ k, k < 3 → parseFieldDescriptor (T_AL k).2.2.1 = some (tt_AL k) := by decide +kernel
def kc : List vw_C := [(R_C, T_C, 10), (R_Cd, T_Cd, 3), (R_Dr, T_Dr, 10), (R_Fi, T_Fi, 2), (R_Kn, T_Kn, 4), (R_Ne, T_Ne, 2), (R_Pe, T_Pe, 2), (R_Ri, T_Ri, 5), (R_Ro, T_Ro, 2), (R_Rw, T_Rw, 3), (R_Us, T_Us, 2), (R_M, T_M, 41), (R_AL, T_AL, 3)]
abbrev c_C_init : ByteArray := prog_1_method_1_code
def y_C_init : MethodName := { cls := "CardRights", name := "<init>", desc := "()V" }
abbrev cw_C_init : Cond := .code y_C_init c_C_init 1 (Option.none : Option FieldType)
abbrev c_AL_init : ByteArray := prog_27_method_2_code
def y_AL_init : MethodName := { cls := "java/util/ArrayList", name := "<init>", desc := "()V" }
abbrev cw_AL_init : Cond := .code y_AL_init c_AL_init 1 (Option.none : Option FieldType)
abbrev c_AbL_init : ByteArray := prog_26_method_1_code
def y_AbL_init : MethodName := { cls := "java/util/AbstractList", name := "<init>", desc := "()V" }
abbrev cw_AbL_init : Cond := .code y_AbL_init c_AbL_init 1 (Option.none : Option FieldType)
abbrev c_AbC_init : ByteArray := prog_25_method_1_code
def y_AbC_init : MethodName := { cls := "java/util/AbstractCollection", name := "<init>", desc := "()V" }
abbrev cw_AbC_init : Cond := .code y_AbC_init c_AbC_init 1 (Option.none : Option FieldType)
abbrev c_Kn_init : ByteArray := prog_5_method_1_code
def y_Kn_init : MethodName := { cls := "CardRights$Knowledge", name := "<init>", desc := "()V" }
abbrev cw_Kn_init : Cond := .code y_Kn_init c_Kn_init 1 (Option.none : Option FieldType)
abbrev c_Ar_fill : ByteArray := prog_28_method_103_code
def y_Ar_fill : MethodName := { cls := "java/util/Arrays", name := "fill", desc := "([II)V" }
abbrev cw_Ar_fill : Cond := .code y_Ar_fill c_Ar_fill 4 (Option.none : Option FieldType)
abbrev c_Fi_init : ByteArray := prog_4_method_1_code
def y_Fi_init : MethodName := { cls := "CardRights$Findings", name := "<init>", desc := "()V" }
abbrev cw_Fi_init : Cond := .code y_Fi_init c_Fi_init 1 (Option.none : Option FieldType)
abbrev c_Us_init : ByteArray := prog_11_method_1_code
def y_Us_init : MethodName := { cls := "CardRights$Uses", name := "<init>", desc := "()V" }
abbrev cw_Us_init : Cond := .code y_Us_init c_Us_init 1 (Option.none : Option FieldType)
abbrev c_Ne_init : ByteArray := prog_6_method_1_code
def y_Ne_init : MethodName := { cls := "CardRights$Needs", name := "<init>", desc := "()V" }
abbrev cw_Ne_init : Cond := .code y_Ne_init c_Ne_init 1 (Option.none : Option FieldType)
abbrev c_C_against : ByteArray := prog_1_method_18_code
def y_C_against : MethodName := { cls := "CardRights", name := "against", desc := "()I" }
abbrev cw_C_against : Cond := .code y_C_against c_C_against 1 (Option.some FieldType.int)
abbrev c_C_uses : ByteArray := prog_1_method_20_code
def y_C_uses : MethodName := { cls := "CardRights", name := "uses", desc := "()I" }
abbrev cw_C_uses : Cond := .code y_C_uses c_C_uses 1 (Option.some FieldType.int)
abbrev c_C_fewest : ByteArray := prog_1_method_21_code
def y_C_fewest : MethodName := { cls := "CardRights", name := "fewest", desc := "()I" }
abbrev cw_C_fewest : Cond := .code y_C_fewest c_C_fewest 5 (Option.some FieldType.int)
abbrev c_Ne_clear : ByteArray := prog_6_method_2_code
def y_Ne_clear : MethodName := { cls := "CardRights$Needs", name := "clear", desc := "()V" }
abbrev cw_Ne_clear : Cond := .code y_Ne_clear c_Ne_clear 1 (Option.none : Option FieldType)
abbrev c_C_rightsThatHave : ByteArray := prog_1_method_41_code
def y_C_rightsThatHave : MethodName := { cls := "CardRights", name := "rightsThatHave", desc := "(I)I" }
abbrev cw_C_rightsThatHave : Cond := .code y_C_rightsThatHave c_C_rightsThatHave 7 (Option.some FieldType.int)
abbrev c_Us_groupOf : ByteArray := prog_11_method_3_code
def y_Us_groupOf : MethodName := { cls := "CardRights$Uses", name := "groupOf", desc := "(I)I" }
abbrev cw_Us_groupOf : Cond := .code y_Us_groupOf c_Us_groupOf 1 (Option.some FieldType.int)
abbrev c_Us_zoneOf : ByteArray := prog_11_method_4_code
def y_Us_zoneOf : MethodName := { cls := "CardRights$Uses", name := "zoneOf", desc := "(I)I" }
abbrev cw_Us_zoneOf : Cond := .code y_Us_zoneOf c_Us_zoneOf 1 (Option.some FieldType.int)
abbrev c_Us_timeOf : ByteArray := prog_11_method_5_code
def y_Us_timeOf : MethodName := { cls := "CardRights$Uses", name := "timeOf", desc := "(I)I" }
abbrev cw_Us_timeOf : Cond := .code y_Us_timeOf c_Us_timeOf 1 (Option.some FieldType.int)
abbrev c_AL_size : ByteArray := prog_27_method_8_code
def y_AL_size : MethodName := { cls := "java/util/ArrayList", name := "size", desc := "()I" }
abbrev cw_AL_size : Cond := .code y_AL_size c_AL_size 1 (Option.some FieldType.int)
abbrev c_AL_get : ByteArray := prog_27_method_20_code
def y_AL_get : MethodName := { cls := "java/util/ArrayList", name := "get", desc := "(I)Ljava/lang/Object;" }
abbrev cw_AL_get : Cond := .code y_AL_get c_AL_get 2 (Option.some (FieldType.object "java/lang/Object"))
abbrev c_Ob_checkIndex : ByteArray := prog_31_method_17_code
def y_Ob_checkIndex : MethodName := { cls := "java/util/Objects", name := "checkIndex", desc := "(II)I" }
abbrev cw_Ob_checkIndex : Cond := .code y_Ob_checkIndex c_Ob_checkIndex 2 (Option.some FieldType.int)
abbrev c_Pr_checkIndex : ByteArray := prog_35_method_11_code
def y_Pr_checkIndex : MethodName := { cls := "jdk/internal/util/Preconditions", name := "checkIndex", desc := "(IILjava/util/function/BiFunction;)I" }
abbrev cw_Pr_checkIndex : Cond := .code y_Pr_checkIndex c_Pr_checkIndex 3 (Option.some FieldType.int)
abbrev c_AL_elementData : ByteArray := prog_27_method_18_code
def y_AL_elementData : MethodName := { cls := "java/util/ArrayList", name := "elementData", desc := "(I)Ljava/lang/Object;" }
abbrev cw_AL_elementData : Cond := .code y_AL_elementData c_AL_elementData 2 (Option.some (FieldType.object "java/lang/Object"))
abbrev c_Ri_isFor : ByteArray := prog_8_method_2_code
def y_Ri_isFor : MethodName := { cls := "CardRights$Right", name := "isFor", desc := "(III)Z" }
abbrev cw_Ri_isFor : Cond := .code y_Ri_isFor c_Ri_isFor 4 (Option.some FieldType.boolean)
abbrev c_Ri_spans : ByteArray := prog_8_method_3_code
def y_Ri_spans : MethodName := { cls := "CardRights$Right", name := "spans", desc := "(I)Z" }
abbrev cw_Ri_spans : Cond := .code y_Ri_spans c_Ri_spans 2 (Option.some FieldType.boolean)
abbrev c_Ne_add : ByteArray := prog_6_method_3_code
def y_Ne_add : MethodName := { cls := "CardRights$Needs", name := "add", desc := "(I)V" }
abbrev cw_Ne_add : Cond := .code y_Ne_add c_Ne_add 3 (Option.none : Option FieldType)
abbrev c_Ne_leastOfTheFewest : ByteArray := prog_6_method_4_code
def y_Ne_leastOfTheFewest : MethodName := { cls := "CardRights$Needs", name := "leastOfTheFewest", desc := "()I" }
abbrev cw_Ne_leastOfTheFewest : Cond := .code y_Ne_leastOfTheFewest c_Ne_leastOfTheFewest 3 (Option.some FieldType.int)
abbrev c_Ne_leastWith : ByteArray := prog_6_method_5_code
def y_Ne_leastWith : MethodName := { cls := "CardRights$Needs", name := "leastWith", desc := "(III)I" }
abbrev cw_Ne_leastWith : Cond := .code y_Ne_leastWith c_Ne_leastWith 6 (Option.some FieldType.int)
abbrev c_Ne_canBeMet : ByteArray := prog_6_method_6_code
def y_Ne_canBeMet : MethodName := { cls := "CardRights$Needs", name := "canBeMet", desc := "(III)Z" }
abbrev cw_Ne_canBeMet : Cond := .code y_Ne_canBeMet c_Ne_canBeMet 8 (Option.some FieldType.boolean)
abbrev c_C_now : ByteArray := prog_1_method_22_code
def y_C_now : MethodName := { cls := "CardRights", name := "now", desc := "()I" }
abbrev cw_C_now : Cond := .code y_C_now c_C_now 1 (Option.some FieldType.int)
abbrev c_C_room : ByteArray := prog_1_method_2_code
def y_C_room : MethodName := { cls := "CardRights", name := "room", desc := "(I)I" }
abbrev cw_C_room : Cond := .code y_C_room c_C_room 3 (Option.some FieldType.int)
abbrev c_C_checkZone : ByteArray := prog_1_method_23_code
def y_C_checkZone : MethodName := { cls := "CardRights", name := "checkZone", desc := "(I)V" }
abbrev cw_C_checkZone : Cond := .code y_C_checkZone c_C_checkZone 1 (Option.none : Option FieldType)
abbrev c_Ro_init : ByteArray := prog_9_method_1_code
def y_Ro_init : MethodName := { cls := "CardRights$Room", name := "<init>", desc := "(II)V" }
abbrev cw_Ro_init : Cond := .code y_Ro_init c_Ro_init 3 (Option.none : Option FieldType)
abbrev c_AL_add0 : ByteArray := prog_27_method_25_code
def y_AL_add0 : MethodName := { cls := "java/util/ArrayList", name := "add", desc := "(Ljava/lang/Object;)Z" }
abbrev cw_AL_add0 : Cond := .code y_AL_add0 c_AL_add0 2 (Option.some FieldType.boolean)
abbrev c_AL_add1 : ByteArray := prog_27_method_24_code
def y_AL_add1 : MethodName := { cls := "java/util/ArrayList", name := "add", desc := "(Ljava/lang/Object;[Ljava/lang/Object;I)V" }
abbrev cw_AL_add1 : Cond := .code y_AL_add1 c_AL_add1 4 (Option.none : Option FieldType)
abbrev c_AL_grow0 : ByteArray := prog_27_method_7_code
def y_AL_grow0 : MethodName := { cls := "java/util/ArrayList", name := "grow", desc := "()[Ljava/lang/Object;" }
abbrev cw_AL_grow0 : Cond := .code y_AL_grow0 c_AL_grow0 1 (Option.some (FieldType.array (FieldType.object "java/lang/Object")))
abbrev c_AL_grow1 : ByteArray := prog_27_method_6_code
def y_AL_grow1 : MethodName := { cls := "java/util/ArrayList", name := "grow", desc := "(I)[Ljava/lang/Object;" }
abbrev cw_AL_grow1 : Cond := .code y_AL_grow1 c_AL_grow1 4 (Option.some (FieldType.array (FieldType.object "java/lang/Object")))
abbrev c_As_newLength : ByteArray := prog_34_method_27_code
def y_As_newLength : MethodName := { cls := "jdk/internal/util/ArraysSupport", name := "newLength", desc := "(III)I" }
abbrev cw_As_newLength : Cond := .code y_As_newLength c_As_newLength 4 (Option.some FieldType.int)
abbrev c_Ma_max : ByteArray := prog_20_method_65_code
def y_Ma_max : MethodName := { cls := "java/lang/Math", name := "max", desc := "(II)I" }
abbrev cw_Ma_max : Cond := .code y_Ma_max c_Ma_max 2 (Option.some FieldType.int)
abbrev c_As_hugeLength : ByteArray := prog_34_method_28_code
def y_As_hugeLength : MethodName := { cls := "jdk/internal/util/ArraysSupport", name := "hugeLength", desc := "(II)I" }
abbrev cw_As_hugeLength : Cond := .code y_As_hugeLength c_As_hugeLength 3 (Option.some FieldType.int)
abbrev c_Ar_copyOf0 : ByteArray := prog_28_method_119_code
def y_Ar_copyOf0 : MethodName := { cls := "java/util/Arrays", name := "copyOf", desc := "([Ljava/lang/Object;I)[Ljava/lang/Object;" }
abbrev cw_Ar_copyOf0 : Cond := .code y_Ar_copyOf0 c_Ar_copyOf0 2 (Option.some (FieldType.array (FieldType.object "java/lang/Object")))
abbrev c_Ar_copyOf1 : ByteArray := prog_28_method_120_code
def y_Ar_copyOf1 : MethodName := { cls := "java/util/Arrays", name := "copyOf", desc := "([Ljava/lang/Object;ILjava/lang/Class;)[Ljava/lang/Object;" }
abbrev cw_Ar_copyOf1 : Cond := .code y_Ar_copyOf1 c_Ar_copyOf1 4 (Option.some (FieldType.array (FieldType.object "java/lang/Object")))
abbrev c_Ma_min : ByteArray := prog_20_method_69_code
def y_Ma_min : MethodName := { cls := "java/lang/Math", name := "min", desc := "(II)I" }
abbrev cw_Ma_min : Cond := .code y_Ma_min c_Ma_min 2 (Option.some FieldType.int)
abbrev c_C_door : ByteArray := prog_1_method_3_code
def y_C_door : MethodName := { cls := "CardRights", name := "door", desc := "(II)I" }
abbrev cw_C_door : Cond := .code y_C_door c_C_door 6 (Option.some FieldType.int)
abbrev c_C_roomNumbered : ByteArray := prog_1_method_29_code
def y_C_roomNumbered : MethodName := { cls := "CardRights", name := "roomNumbered", desc := "(I)LCardRights$Room;" }
abbrev cw_C_roomNumbered : Cond := .code y_C_roomNumbered c_C_roomNumbered 2 (Option.some (FieldType.object "CardRights$Room"))
abbrev c_Dr_init : ByteArray := prog_3_method_1_code
def y_Dr_init : MethodName := { cls := "CardRights$Door", name := "<init>", desc := "(ILCardRights$Room;LCardRights$Room;)V" }
abbrev cw_Dr_init : Cond := .code y_Dr_init c_Dr_init 4 (Option.none : Option FieldType)
abbrev c_C_person : ByteArray := prog_1_method_4_code
def y_C_person : MethodName := { cls := "CardRights", name := "person", desc := "(I)I" }
abbrev cw_C_person : Cond := .code y_C_person c_C_person 2 (Option.some FieldType.int)
abbrev c_C_checkGroup : ByteArray := prog_1_method_24_code
def y_C_checkGroup : MethodName := { cls := "CardRights", name := "checkGroup", desc := "(I)V" }
abbrev cw_C_checkGroup : Cond := .code y_C_checkGroup c_C_checkGroup 1 (Option.none : Option FieldType)
abbrev c_AL_isEmpty : ByteArray := prog_27_method_9_code
def y_AL_isEmpty : MethodName := { cls := "java/util/ArrayList", name := "isEmpty", desc := "()Z" }
abbrev cw_AL_isEmpty : Cond := .code y_AL_isEmpty c_AL_isEmpty 1 (Option.some FieldType.boolean)
abbrev c_Pe_init : ByteArray := prog_7_method_1_code
def y_Pe_init : MethodName := { cls := "CardRights$Person", name := "<init>", desc := "(ILCardRights$Room;)V" }
abbrev cw_Pe_init : Cond := .code y_Pe_init c_Pe_init 3 (Option.none : Option FieldType)
abbrev c_C_card : ByteArray := prog_1_method_5_code
def y_C_card : MethodName := { cls := "CardRights", name := "card", desc := "(II)I" }
abbrev cw_C_card : Cond := .code y_C_card c_C_card 5 (Option.some FieldType.int)
abbrev c_C_personNumbered : ByteArray := prog_1_method_32_code
def y_C_personNumbered : MethodName := { cls := "CardRights", name := "personNumbered", desc := "(I)LCardRights$Person;" }
abbrev cw_C_personNumbered : Cond := .code y_C_personNumbered c_C_personNumbered 2 (Option.some (FieldType.object "CardRights$Person"))
abbrev c_C_checkMinute : ByteArray := prog_1_method_26_code
def y_C_checkMinute : MethodName := { cls := "CardRights", name := "checkMinute", desc := "(I)V" }
abbrev cw_C_checkMinute : Cond := .code y_C_checkMinute c_C_checkMinute 1 (Option.none : Option FieldType)
abbrev c_Cd_init : ByteArray := prog_2_method_1_code
def y_Cd_init : MethodName := { cls := "CardRights$Card", name := "<init>", desc := "(ILCardRights$Person;I)V" }
abbrev cw_Cd_init : Cond := .code y_Cd_init c_Cd_init 4 (Option.none : Option FieldType)
abbrev c_C_right : ByteArray := prog_1_method_6_code
def y_C_right : MethodName := { cls := "CardRights", name := "right", desc := "(IIIII)I" }
abbrev cw_C_right : Cond := .code y_C_right c_C_right 6 (Option.some FieldType.int)
abbrev c_C_checkTimeOfDay : ByteArray := prog_1_method_25_code
def y_C_checkTimeOfDay : MethodName := { cls := "CardRights", name := "checkTimeOfDay", desc := "(I)V" }
abbrev cw_C_checkTimeOfDay : Cond := .code y_C_checkTimeOfDay c_C_checkTimeOfDay 1 (Option.none : Option FieldType)
abbrev c_Ri_init : ByteArray := prog_8_method_1_code
def y_Ri_init : MethodName := { cls := "CardRights$Right", name := "<init>", desc := "(IIIII)V" }
abbrev cw_Ri_init : Cond := .code y_Ri_init c_Ri_init 6 (Option.none : Option FieldType)
abbrev c_C_end : ByteArray := prog_1_method_7_code
def y_C_end : MethodName := { cls := "CardRights", name := "end", desc := "(II)I" }
abbrev cw_C_end : Cond := .code y_C_end c_C_end 4 (Option.some FieldType.int)
abbrev c_C_lost : ByteArray := prog_1_method_8_code
def y_C_lost : MethodName := { cls := "CardRights", name := "lost", desc := "(II)I" }
abbrev cw_C_lost : Cond := .code y_C_lost c_C_lost 5 (Option.some FieldType.int)
abbrev c_C_cardNumbered : ByteArray := prog_1_method_33_code
def y_C_cardNumbered : MethodName := { cls := "CardRights", name := "cardNumbered", desc := "(I)LCardRights$Card;" }
abbrev cw_C_cardNumbered : Cond := .code y_C_cardNumbered c_C_cardNumbered 2 (Option.some (FieldType.object "CardRights$Card"))
abbrev c_C_two : ByteArray := prog_1_method_9_code
def y_C_two : MethodName := { cls := "CardRights", name := "two", desc := "(IZ)Z" }
abbrev cw_C_two : Cond := .code y_C_two c_C_two 5 (Option.some FieldType.boolean)
abbrev c_C_doorNumbered : ByteArray := prog_1_method_31_code
def y_C_doorNumbered : MethodName := { cls := "CardRights", name := "doorNumbered", desc := "(I)LCardRights$Door;" }
abbrev cw_C_doorNumbered : Cond := .code y_C_doorNumbered c_C_doorNumbered 2 (Option.some (FieldType.object "CardRights$Door"))
abbrev c_C_airlock : ByteArray := prog_1_method_10_code
def y_C_airlock : MethodName := { cls := "CardRights", name := "airlock", desc := "(IIZ)Z" }
abbrev cw_C_airlock : Cond := .code y_C_airlock c_C_airlock 7 (Option.some FieldType.boolean)
abbrev c_Dr_isAirlockWith : ByteArray := prog_3_method_3_code
def y_Dr_isAirlockWith : MethodName := { cls := "CardRights$Door", name := "isAirlockWith", desc := "(LCardRights$Door;)Z" }
abbrev cw_Dr_isAirlockWith : Cond := .code y_Dr_isAirlockWith c_Dr_isAirlockWith 2 (Option.some FieldType.boolean)
abbrev c_Dr_setAirlockWith : ByteArray := prog_3_method_4_code
def y_Dr_setAirlockWith : MethodName := { cls := "CardRights$Door", name := "setAirlockWith", desc := "(LCardRights$Door;Z)V" }
abbrev cw_Dr_setAirlockWith : Cond := .code y_Dr_setAirlockWith c_Dr_setAirlockWith 3 (Option.none : Option FieldType)
abbrev c_C_state : ByteArray := prog_1_method_11_code
def y_C_state : MethodName := { cls := "CardRights", name := "state", desc := "(IZI)I" }
abbrev cw_C_state : Cond := .code y_C_state c_C_state 6 (Option.some FieldType.int)
abbrev c_C_checkMinuteFromNow : ByteArray := prog_1_method_27_code
def y_C_checkMinuteFromNow : MethodName := { cls := "CardRights", name := "checkMinuteFromNow", desc := "(I)V" }
abbrev cw_C_checkMinuteFromNow : Cond := .code y_C_checkMinuteFromNow c_C_checkMinuteFromNow 2 (Option.none : Option FieldType)
abbrev c_C_off : ByteArray := prog_1_method_12_code
def y_C_off : MethodName := { cls := "CardRights", name := "off", desc := "(IZ)I" }
abbrev cw_C_off : Cond := .code y_C_off c_C_off 4 (Option.some FieldType.int)
abbrev c_Kn_copyFrom : ByteArray := prog_5_method_2_code
def y_Kn_copyFrom : MethodName := { cls := "CardRights$Knowledge", name := "copyFrom", desc := "(LCardRights$Knowledge;)V" }
abbrev cw_Kn_copyFrom : Cond := .code y_Kn_copyFrom c_Kn_copyFrom 2 (Option.none : Option FieldType)
abbrev c_C_goThroughRows : ByteArray := prog_1_method_39_code
def y_C_goThroughRows : MethodName := { cls := "CardRights", name := "goThroughRows", desc := "(LCardRights$Door;)I" }
abbrev cw_C_goThroughRows : Cond := .code y_C_goThroughRows c_C_goThroughRows 6 (Option.some FieldType.int)
abbrev c_C_refusalLookingBack : ByteArray := prog_1_method_40_code
def y_C_refusalLookingBack : MethodName := { cls := "CardRights", name := "refusalLookingBack", desc := "(LCardRights$Row;)I" }
abbrev cw_C_refusalLookingBack : Cond := .code y_C_refusalLookingBack c_C_refusalLookingBack 3 (Option.some FieldType.int)
abbrev c_C_refusalOfCard : ByteArray := prog_1_method_35_code
def y_C_refusalOfCard : MethodName := { cls := "CardRights", name := "refusalOfCard", desc := "(LCardRights$Knowledge;LCardRights$Card;I)I" }
abbrev cw_C_refusalOfCard : Cond := .code y_C_refusalOfCard c_C_refusalOfCard 3 (Option.some FieldType.int)
abbrev c_Kn_knowsCard : ByteArray := prog_5_method_3_code
def y_Kn_knowsCard : MethodName := { cls := "CardRights$Knowledge", name := "knowsCard", desc := "(I)Z" }
abbrev cw_Kn_knowsCard : Cond := .code y_Kn_knowsCard c_Kn_knowsCard 2 (Option.some FieldType.boolean)
abbrev c_Kn_isLost : ByteArray := prog_5_method_4_code
def y_Kn_isLost : MethodName := { cls := "CardRights$Knowledge", name := "isLost", desc := "(II)Z" }
abbrev cw_Kn_isLost : Cond := .code y_Kn_isLost c_Kn_isLost 3 (Option.some FieldType.boolean)
abbrev c_Kn_isFrom : ByteArray := prog_5_method_6_code
def y_Kn_isFrom : MethodName := { cls := "CardRights$Knowledge", name := "isFrom", desc := "(II)Z" }
abbrev cw_Kn_isFrom : Cond := .code y_Kn_isFrom c_Kn_isFrom 2 (Option.some FieldType.boolean)
abbrev c_C_hasRight : ByteArray := prog_1_method_36_code
def y_C_hasRight : MethodName := { cls := "CardRights", name := "hasRight", desc := "(LCardRights$Knowledge;III)Z" }
abbrev cw_C_hasRight : Cond := .code y_C_hasRight c_C_hasRight 7 (Option.some FieldType.boolean)
abbrev c_Kn_isEnded : ByteArray := prog_5_method_5_code
def y_Kn_isEnded : MethodName := { cls := "CardRights$Knowledge", name := "isEnded", desc := "(II)Z" }
abbrev cw_Kn_isEnded : Cond := .code y_Kn_isEnded c_Kn_isEnded 3 (Option.some FieldType.boolean)
abbrev c_Fi_add : ByteArray := prog_4_method_3_code
def y_Fi_add : MethodName := { cls := "CardRights$Findings", name := "add", desc := "(IIII)V" }
abbrev cw_Fi_add : Cond := .code y_Fi_add c_Fi_add 6 (Option.none : Option FieldType)
abbrev c_AL_clear : ByteArray := prog_27_method_40_code
def y_AL_clear : MethodName := { cls := "java/util/ArrayList", name := "clear", desc := "()V" }
abbrev cw_AL_clear : Cond := .code y_AL_clear c_AL_clear 4 (Option.none : Option FieldType)
abbrev c_C_asks : ByteArray := prog_1_method_13_code
def y_C_asks : MethodName := { cls := "CardRights", name := "asks", desc := "(IIII)I" }
abbrev cw_C_asks : Cond := .code y_C_asks c_C_asks 9 (Option.some FieldType.int)
abbrev c_C_roomOfDoor : ByteArray := prog_1_method_30_code
def y_C_roomOfDoor : MethodName := { cls := "CardRights", name := "roomOfDoor", desc := "(LCardRights$Door;I)LCardRights$Room;" }
abbrev cw_C_roomOfDoor : Cond := .code y_C_roomOfDoor c_C_roomOfDoor 2 (Option.some (FieldType.object "CardRights$Room"))
abbrev c_C_checkSpaceForRows : ByteArray := prog_1_method_28_code
def y_C_checkSpaceForRows : MethodName := { cls := "CardRights", name := "checkSpaceForRows", desc := "(LCardRights$Door;I)V" }
abbrev cw_C_checkSpaceForRows : Cond := .code y_C_checkSpaceForRows c_C_checkSpaceForRows 2 (Option.none : Option FieldType)
abbrev c_C_refusalByItself : ByteArray := prog_1_method_34_code
def y_C_refusalByItself : MethodName := { cls := "CardRights", name := "refusalByItself", desc := "(LCardRights$Card;LCardRights$Door;LCardRights$Room;I)I" }
abbrev cw_C_refusalByItself : Cond := .code y_C_refusalByItself c_C_refusalByItself 7 (Option.some FieldType.int)
abbrev c_Dr_otherRoom : ByteArray := prog_3_method_2_code
def y_Dr_otherRoom : MethodName := { cls := "CardRights$Door", name := "otherRoom", desc := "(LCardRights$Room;)LCardRights$Room;" }
abbrev cw_Dr_otherRoom : Cond := .code y_Dr_otherRoom c_Dr_otherRoom 2 (Option.some (FieldType.object "CardRights$Room"))
abbrev c_C_isAirlockOpen : ByteArray := prog_1_method_37_code
def y_C_isAirlockOpen : MethodName := { cls := "CardRights", name := "isAirlockOpen", desc := "(LCardRights$Door;)Z" }
abbrev cw_C_isAirlockOpen : Cond := .code y_C_isAirlockOpen c_C_isAirlockOpen 4 (Option.some FieldType.boolean)
abbrev c_C_letIn : ByteArray := prog_1_method_38_code
def y_C_letIn : MethodName := { cls := "CardRights", name := "letIn", desc := "(LCardRights$Card;LCardRights$Door;LCardRights$Room;I)V" }
abbrev cw_C_letIn : Cond := .code y_C_letIn c_C_letIn 5 (Option.none : Option FieldType)
abbrev c_Us_mark : ByteArray := prog_11_method_2_code
def y_Us_mark : MethodName := { cls := "CardRights$Uses", name := "mark", desc := "(III)V" }
abbrev cw_Us_mark : Cond := .code y_Us_mark c_Us_mark 7 (Option.none : Option FieldType)
abbrev c_Rw_init : ByteArray := prog_10_method_1_code
def y_Rw_init : MethodName := { cls := "CardRights$Row", name := "<init>", desc := "(LCardRights$Card;LCardRights$Room;I)V" }
abbrev cw_Rw_init : Cond := .code y_Rw_init c_Rw_init 4 (Option.none : Option FieldType)
abbrev c_C_both : ByteArray := prog_1_method_14_code
def y_C_both : MethodName := { cls := "CardRights", name := "both", desc := "(IIIII)I" }
abbrev cw_C_both : Cond := .code y_C_both c_C_both 11 (Option.some FieldType.int)
abbrev c_C_where : ByteArray := prog_1_method_15_code
def y_C_where : MethodName := { cls := "CardRights", name := "where", desc := "(I)I" }
abbrev cw_C_where : Cond := .code y_C_where c_C_where 2 (Option.some FieldType.int)
abbrev c_C_inside : ByteArray := prog_1_method_16_code
def y_C_inside : MethodName := { cls := "CardRights", name := "inside", desc := "(I)I" }
abbrev cw_C_inside : Cond := .code y_C_inside c_C_inside 4 (Option.some FieldType.int)
abbrev c_C_muster : ByteArray := prog_1_method_17_code
def y_C_muster : MethodName := { cls := "CardRights", name := "muster", desc := "(II)I" }
abbrev cw_C_muster : Cond := .code y_C_muster c_C_muster 5 (Option.some FieldType.int)
abbrev c_C_found : ByteArray := prog_1_method_19_code
def y_C_found : MethodName := { cls := "CardRights", name := "found", desc := "(II)I" }
abbrev cw_C_found : Cond := .code y_C_found c_C_found 3 (Option.some FieldType.int)
abbrev c_Fi_keptCount : ByteArray := prog_4_method_2_code
def y_Fi_keptCount : MethodName := { cls := "CardRights$Findings", name := "keptCount", desc := "()I" }
abbrev cw_Fi_keptCount : Cond := .code y_Fi_keptCount c_Fi_keptCount 1 (Option.some FieldType.int)
abbrev c_M_init : ByteArray := prog_13_method_1_code
def y_M_init : MethodName := { cls := "CardRightsModel", name := "<init>", desc := "()V" }
abbrev cw_M_init : Cond := .code y_M_init c_M_init 1 (Option.none : Option FieldType)
abbrev c_M_thrown : ByteArray := prog_13_method_2_code
def y_M_thrown : MethodName := { cls := "CardRightsModel", name := "thrown", desc := "()I" }
abbrev cw_M_thrown : Cond := .code y_M_thrown c_M_thrown 1 (Option.some FieldType.int)
abbrev c_M_room : ByteArray := prog_13_method_8_code
def y_M_room : MethodName := { cls := "CardRightsModel", name := "room", desc := "(I)I" }
abbrev cw_M_room : Cond := .code y_M_room c_M_room 2 (Option.some FieldType.int)
abbrev c_M_isIn : ByteArray := prog_13_method_4_code
def y_M_isIn : MethodName := { cls := "CardRightsModel", name := "isIn", desc := "(II)Z" }
abbrev cw_M_isIn : Cond := .code y_M_isIn c_M_isIn 2 (Option.some FieldType.boolean)
abbrev c_M_goes : ByteArray := prog_13_method_3_code
def y_M_goes : MethodName := { cls := "CardRightsModel", name := "goes", desc := "(ZZ)Z" }
abbrev cw_M_goes : Cond := .code y_M_goes c_M_goes 3 (Option.some FieldType.boolean)
abbrev c_M_door : ByteArray := prog_13_method_9_code
def y_M_door : MethodName := { cls := "CardRightsModel", name := "door", desc := "(II)I" }
abbrev cw_M_door : Cond := .code y_M_door c_M_door 3 (Option.some FieldType.int)
abbrev c_M_person : ByteArray := prog_13_method_10_code
def y_M_person : MethodName := { cls := "CardRightsModel", name := "person", desc := "(I)I" }
abbrev cw_M_person : Cond := .code y_M_person c_M_person 2 (Option.some FieldType.int)
abbrev c_M_card : ByteArray := prog_13_method_11_code
def y_M_card : MethodName := { cls := "CardRightsModel", name := "card", desc := "(II)I" }
abbrev cw_M_card : Cond := .code y_M_card c_M_card 3 (Option.some FieldType.int)
abbrev c_M_isMinute : ByteArray := prog_13_method_5_code
def y_M_isMinute : MethodName := { cls := "CardRightsModel", name := "isMinute", desc := "(I)Z" }
abbrev cw_M_isMinute : Cond := .code y_M_isMinute c_M_isMinute 1 (Option.some FieldType.boolean)
abbrev c_M_tell : ByteArray := prog_13_method_6_code
def y_M_tell : MethodName := { cls := "CardRightsModel", name := "tell", desc := "(III)V" }
abbrev cw_M_tell : Cond := .code y_M_tell c_M_tell 4 (Option.none : Option FieldType)
abbrev c_M_right : ByteArray := prog_13_method_12_code
def y_M_right : MethodName := { cls := "CardRightsModel", name := "right", desc := "(IIIII)I" }
abbrev cw_M_right : Cond := .code y_M_right c_M_right 7 (Option.some FieldType.int)
abbrev c_M_end : ByteArray := prog_13_method_13_code
def y_M_end : MethodName := { cls := "CardRightsModel", name := "end", desc := "(II)I" }
abbrev cw_M_end : Cond := .code y_M_end c_M_end 4 (Option.some FieldType.int)
abbrev c_M_told : ByteArray := prog_13_method_7_code
def y_M_told : MethodName := { cls := "CardRightsModel", name := "told", desc := "(III)I" }
abbrev cw_M_told : Cond := .code y_M_told c_M_told 5 (Option.some FieldType.int)
abbrev c_M_lost : ByteArray := prog_13_method_14_code
def y_M_lost : MethodName := { cls := "CardRightsModel", name := "lost", desc := "(II)I" }
abbrev cw_M_lost : Cond := .code y_M_lost c_M_lost 4 (Option.some FieldType.int)
abbrev c_M_two : ByteArray := prog_13_method_15_code
def y_M_two : MethodName := { cls := "CardRightsModel", name := "two", desc := "(IZ)Z" }
abbrev cw_M_two : Cond := .code y_M_two c_M_two 4 (Option.some FieldType.boolean)
abbrev c_M_airlock : ByteArray := prog_13_method_16_code
def y_M_airlock : MethodName := { cls := "CardRightsModel", name := "airlock", desc := "(IIZ)Z" }
abbrev cw_M_airlock : Cond := .code y_M_airlock c_M_airlock 5 (Option.some FieldType.boolean)
abbrev c_M_state : ByteArray := prog_13_method_18_code
def y_M_state : MethodName := { cls := "CardRightsModel", name := "state", desc := "(IZI)I" }
abbrev cw_M_state : Cond := .code y_M_state c_M_state 5 (Option.some FieldType.int)
abbrev c_M_isLater : ByteArray := prog_13_method_17_code
def y_M_isLater : MethodName := { cls := "CardRightsModel", name := "isLater", desc := "(I)Z" }
abbrev cw_M_isLater : Cond := .code y_M_isLater c_M_isLater 2 (Option.some FieldType.boolean)
abbrev c_M_asks : ByteArray := prog_13_method_24_code
def y_M_asks : MethodName := { cls := "CardRightsModel", name := "asks", desc := "(IIII)I" }
abbrev cw_M_asks : Cond := .code y_M_asks c_M_asks 7 (Option.some FieldType.int)
abbrev c_M_isOf : ByteArray := prog_13_method_23_code
def y_M_isOf : MethodName := { cls := "CardRightsModel", name := "isOf", desc := "(II)Z" }
abbrev cw_M_isOf : Cond := .code y_M_isOf c_M_isOf 3 (Option.some FieldType.boolean)
abbrev c_M_refused : ByteArray := prog_13_method_21_code
def y_M_refused : MethodName := { cls := "CardRightsModel", name := "refused", desc := "(IIII)I" }
abbrev cw_M_refused : Cond := .code y_M_refused c_M_refused 8 (Option.some FieldType.int)
abbrev c_M_why : ByteArray := prog_13_method_20_code
def y_M_why : MethodName := { cls := "CardRightsModel", name := "why", desc := "(IIIII)I" }
abbrev cw_M_why : Cond := .code y_M_why c_M_why 11 (Option.some FieldType.int)
abbrev c_M_spans : ByteArray := prog_13_method_19_code
def y_M_spans : MethodName := { cls := "CardRightsModel", name := "spans", desc := "(IIII)Z" }
abbrev cw_M_spans : Cond := .code y_M_spans c_M_spans 8 (Option.some FieldType.boolean)
abbrev c_M_let : ByteArray := prog_13_method_22_code
def y_M_let : MethodName := { cls := "CardRightsModel", name := "let", desc := "(IIII)V" }
abbrev cw_M_let : Cond := .code y_M_let c_M_let 8 (Option.none : Option FieldType)
abbrev c_M_both : ByteArray := prog_13_method_25_code
def y_M_both : MethodName := { cls := "CardRightsModel", name := "both", desc := "(IIIII)I" }
abbrev cw_M_both : Cond := .code y_M_both c_M_both 8 (Option.some FieldType.int)
abbrev c_M_off : ByteArray := prog_13_method_26_code
def y_M_off : MethodName := { cls := "CardRightsModel", name := "off", desc := "(IZ)I" }
abbrev cw_M_off : Cond := .code y_M_off c_M_off 6 (Option.some FieldType.int)
abbrev c_M_where : ByteArray := prog_13_method_27_code
def y_M_where : MethodName := { cls := "CardRightsModel", name := "where", desc := "(I)I" }
abbrev cw_M_where : Cond := .code y_M_where c_M_where 2 (Option.some FieldType.int)
abbrev c_M_inside : ByteArray := prog_13_method_28_code
def y_M_inside : MethodName := { cls := "CardRightsModel", name := "inside", desc := "(I)I" }
abbrev cw_M_inside : Cond := .code y_M_inside c_M_inside 4 (Option.some FieldType.int)
abbrev c_M_muster : ByteArray := prog_13_method_29_code
def y_M_muster : MethodName := { cls := "CardRightsModel", name := "muster", desc := "(II)I" }
abbrev cw_M_muster : Cond := .code y_M_muster c_M_muster 5 (Option.some FieldType.int)
abbrev c_M_against : ByteArray := prog_13_method_30_code
def y_M_against : MethodName := { cls := "CardRightsModel", name := "against", desc := "()I" }
abbrev cw_M_against : Cond := .code y_M_against c_M_against 1 (Option.some FieldType.int)
abbrev c_M_found : ByteArray := prog_13_method_31_code
def y_M_found : MethodName := { cls := "CardRightsModel", name := "found", desc := "(II)I" }
abbrev cw_M_found : Cond := .code y_M_found c_M_found 3 (Option.some FieldType.int)
abbrev c_M_uses : ByteArray := prog_13_method_32_code
def y_M_uses : MethodName := { cls := "CardRightsModel", name := "uses", desc := "()I" }
abbrev cw_M_uses : Cond := .code y_M_uses c_M_uses 1 (Option.some FieldType.int)
abbrev c_M_fewest : ByteArray := prog_13_method_35_code
def y_M_fewest : MethodName := { cls := "CardRightsModel", name := "fewest", desc := "()I" }
abbrev cw_M_fewest : Cond := .code y_M_fewest c_M_fewest 6 (Option.some FieldType.int)
abbrev c_M_count : ByteArray := prog_13_method_33_code
def y_M_count : MethodName := { cls := "CardRightsModel", name := "count", desc := "(I)I" }
abbrev cw_M_count : Cond := .code y_M_count c_M_count 3 (Option.some FieldType.int)
abbrev c_M_meets : ByteArray := prog_13_method_34_code
def y_M_meets : MethodName := { cls := "CardRightsModel", name := "meets", desc := "(I[II)Z" }
abbrev cw_M_meets : Cond := .code y_M_meets c_M_meets 6 (Option.some FieldType.boolean)
abbrev c_M_now : ByteArray := prog_13_method_36_code
def y_M_now : MethodName := { cls := "CardRightsModel", name := "now", desc := "()I" }
abbrev cw_M_now : Cond := .code y_M_now c_M_now 1 (Option.some FieldType.int)
abbrev c_L_room : ByteArray := method_3_code
def y_L_room : MethodName := { cls := "CardRightsLaw", name := "room", desc := "(LCardRights;I[J)I" }
abbrev cw_L_room : Cond := .codeWith y_L_room c_L_room 4 (Option.some FieldType.int) [((0 : Nat), (9 : Nat), (12 : Nat), (13 : Nat)), ((0 : Nat), (9 : Nat), (15 : Nat), (15 : Nat))]
abbrev c_L_door : ByteArray := method_4_code
def y_L_door : MethodName := { cls := "CardRightsLaw", name := "door", desc := "(LCardRights;II[J)I" }
abbrev cw_L_door : Cond := .codeWith y_L_door c_L_door 5 (Option.some FieldType.int) [((0 : Nat), (10 : Nat), (13 : Nat), (13 : Nat)), ((0 : Nat), (10 : Nat), (17 : Nat), (15 : Nat))]
abbrev c_L_person : ByteArray := method_5_code
def y_L_person : MethodName := { cls := "CardRightsLaw", name := "person", desc := "(LCardRights;I[J)I" }
abbrev cw_L_person : Cond := .codeWith y_L_person c_L_person 4 (Option.some FieldType.int) [((0 : Nat), (9 : Nat), (12 : Nat), (13 : Nat)), ((0 : Nat), (9 : Nat), (15 : Nat), (15 : Nat))]
abbrev c_L_card : ByteArray := method_6_code
def y_L_card : MethodName := { cls := "CardRightsLaw", name := "card", desc := "(LCardRights;II[J)I" }
abbrev cw_L_card : Cond := .codeWith y_L_card c_L_card 5 (Option.some FieldType.int) [((0 : Nat), (10 : Nat), (13 : Nat), (13 : Nat)), ((0 : Nat), (10 : Nat), (17 : Nat), (15 : Nat))]
abbrev c_L_right : ByteArray := method_7_code
def y_L_right : MethodName := { cls := "CardRightsLaw", name := "right", desc := "(LCardRights;IIIII[J)I" }
abbrev cw_L_right : Cond := .codeWith y_L_right c_L_right 8 (Option.some FieldType.int) [((0 : Nat), (16 : Nat), (19 : Nat), (13 : Nat)), ((0 : Nat), (16 : Nat), (23 : Nat), (15 : Nat))]
abbrev c_L_end : ByteArray := method_8_code
def y_L_end : MethodName := { cls := "CardRightsLaw", name := "end", desc := "(LCardRights;II[J)I" }
abbrev cw_L_end : Cond := .codeWith y_L_end c_L_end 5 (Option.some FieldType.int) [((0 : Nat), (10 : Nat), (13 : Nat), (13 : Nat))]
abbrev c_L_lost : ByteArray := method_9_code
def y_L_lost : MethodName := { cls := "CardRightsLaw", name := "lost", desc := "(LCardRights;II[J)I" }
abbrev cw_L_lost : Cond := .codeWith y_L_lost c_L_lost 5 (Option.some FieldType.int) [((0 : Nat), (10 : Nat), (13 : Nat), (13 : Nat))]
abbrev c_L_two : ByteArray := method_10_code
def y_L_two : MethodName := { cls := "CardRightsLaw", name := "two", desc := "(LCardRights;IZ[J)I" }
abbrev cw_L_two : Cond := .codeWith y_L_two c_L_two 5 (Option.some FieldType.int) [((0 : Nat), (17 : Nat), (20 : Nat), (13 : Nat))]
abbrev c_L_airlock : ByteArray := method_11_code
def y_L_airlock : MethodName := { cls := "CardRightsLaw", name := "airlock", desc := "(LCardRights;IIZ[J)I" }
abbrev cw_L_airlock : Cond := .codeWith y_L_airlock c_L_airlock 6 (Option.some FieldType.int) [((0 : Nat), (19 : Nat), (22 : Nat), (13 : Nat))]
abbrev c_L_state : ByteArray := method_12_code
def y_L_state : MethodName := { cls := "CardRightsLaw", name := "state", desc := "(LCardRights;IZI[J)I" }
abbrev cw_L_state : Cond := .codeWith y_L_state c_L_state 6 (Option.some FieldType.int) [((0 : Nat), (12 : Nat), (15 : Nat), (13 : Nat))]
abbrev c_L_off : ByteArray := method_13_code
def y_L_off : MethodName := { cls := "CardRightsLaw", name := "off", desc := "(LCardRights;IZ[J)I" }
abbrev cw_L_off : Cond := .codeWith y_L_off c_L_off 5 (Option.some FieldType.int) [((0 : Nat), (10 : Nat), (13 : Nat), (13 : Nat))]
abbrev c_L_asks : ByteArray := method_14_code
def y_L_asks : MethodName := { cls := "CardRightsLaw", name := "asks", desc := "(LCardRights;IIII[J)I" }
abbrev cw_L_asks : Cond := .codeWith y_L_asks c_L_asks 7 (Option.some FieldType.int) [((0 : Nat), (14 : Nat), (17 : Nat), (13 : Nat)), ((0 : Nat), (14 : Nat), (21 : Nat), (15 : Nat))]
abbrev c_L_both : ByteArray := method_15_code
def y_L_both : MethodName := { cls := "CardRightsLaw", name := "both", desc := "(LCardRights;IIIII[J)I" }
abbrev cw_L_both : Cond := .codeWith y_L_both c_L_both 8 (Option.some FieldType.int) [((0 : Nat), (16 : Nat), (19 : Nat), (13 : Nat)), ((0 : Nat), (16 : Nat), (23 : Nat), (15 : Nat))]
abbrev c_L_where : ByteArray := method_16_code
def y_L_where : MethodName := { cls := "CardRightsLaw", name := "where", desc := "(LCardRights;I[J)I" }
abbrev cw_L_where : Cond := .codeWith y_L_where c_L_where 4 (Option.some FieldType.int) [((0 : Nat), (9 : Nat), (12 : Nat), (13 : Nat))]
abbrev c_L_inside : ByteArray := method_17_code
def y_L_inside : MethodName := { cls := "CardRightsLaw", name := "inside", desc := "(LCardRights;I[J)I" }
abbrev cw_L_inside : Cond := .codeWith y_L_inside c_L_inside 4 (Option.some FieldType.int) [((0 : Nat), (9 : Nat), (12 : Nat), (13 : Nat))]
abbrev c_L_muster : ByteArray := method_18_code
def y_L_muster : MethodName := { cls := "CardRightsLaw", name := "muster", desc := "(LCardRights;II[J)I" }
abbrev cw_L_muster : Cond := .codeWith y_L_muster c_L_muster 5 (Option.some FieldType.int) [((0 : Nat), (10 : Nat), (13 : Nat), (13 : Nat))]
abbrev c_L_found : ByteArray := method_19_code
def y_L_found : MethodName := { cls := "CardRightsLaw", name := "found", desc := "(LCardRights;II[J)I" }
abbrev cw_L_found : Cond := .codeWith y_L_found c_L_found 5 (Option.some FieldType.int) [((0 : Nat), (10 : Nat), (13 : Nat), (13 : Nat))]
end
section
theorem w_1 : (Jvm.Cond.initialized "CardRights") ∈ lw_tbl := List.mem_of_getElem? (i := 44) (by decide +kernel)
theorem w_2 : (Jvm.Cond.initialized "java/util/AbstractCollection") ∈ lw_tbl := List.mem_of_getElem? (i := 45) (by decide +kernel)
theorem w_3 : (Jvm.Cond.initialized "java/util/AbstractList") ∈ lw_tbl := List.mem_of_getElem? (i := 46) (by decide +kernel)
theorem w_4 : (Jvm.Cond.initialized "java/util/ArrayList") ∈ lw_tbl := List.mem_of_getElem? (i := 47) (by decide +kernel)
theorem w_5 : (Jvm.Cond.initialized "CardRights$Knowledge") ∈ lw_tbl := List.mem_of_getElem? (i := 48) (by decide +kernel)
theorem w_6 : (Jvm.Cond.initialized "java/util/Arrays") ∈ lw_tbl := List.mem_of_getElem? (i := 49) (by decide +kernel)
theorem w_7 : (Jvm.Cond.initialized "CardRights$Findings") ∈ lw_tbl := List.mem_of_getElem? (i := 50) (by decide +kernel)
theorem w_8 : (Jvm.Cond.initialized "CardRights$Uses") ∈ lw_tbl := List.mem_of_getElem? (i := 51) (by decide +kernel)
theorem w_9 : (Jvm.Cond.initialized "CardRights$Needs") ∈ lw_tbl := List.mem_of_getElem? (i := 52) (by decide +kernel)
theorem w_10 : (Jvm.Cond.initialized "CardRightsModel") ∈ lw_tbl := List.mem_of_getElem? (i := 53) (by decide +kernel)
theorem w_14 : (Jvm.Cond.initialized "java/lang/IllegalArgumentException") ∈ lw_tbl := List.mem_of_getElem? (i := 57) (by decide +kernel)
theorem w_15 : (Jvm.Cond.initialized "java/lang/IllegalStateException") ∈ lw_tbl := List.mem_of_getElem? (i := 58) (by decide +kernel)
theorem w_16 : (Jvm.Cond.initialized "CardRights$Room") ∈ lw_tbl := List.mem_of_getElem? (i := 59) (by decide +kernel)
theorem w_17 : (Jvm.Cond.initialized "jdk/internal/util/ArraysSupport") ∈ lw_tbl := List.mem_of_getElem? (i := 60) (by decide +kernel)
theorem w_18 : (Jvm.Cond.initialized "java/lang/Math") ∈ lw_tbl := List.mem_of_getElem? (i := 61) (by decide +kernel)
theorem w_19 : (Jvm.Cond.initialized "java/lang/System") ∈ lw_tbl := List.mem_of_getElem? (i := 62) (by decide +kernel)
theorem w_20 : (Jvm.Cond.initialized "java/util/Objects") ∈ lw_tbl := List.mem_of_getElem? (i := 63) (by decide +kernel)
theorem w_21 : (Jvm.Cond.initialized "jdk/internal/util/Preconditions") ∈ lw_tbl := List.mem_of_getElem? (i := 64) (by decide +kernel)
theorem w_22 : (Jvm.Cond.initialized "CardRights$Door") ∈ lw_tbl := List.mem_of_getElem? (i := 65) (by decide +kernel)
theorem w_23 : (Jvm.Cond.initialized "CardRights$Person") ∈ lw_tbl := List.mem_of_getElem? (i := 66) (by decide +kernel)
theorem w_24 : (Jvm.Cond.initialized "CardRights$Card") ∈ lw_tbl := List.mem_of_getElem? (i := 67) (by decide +kernel)
theorem w_25 : (Jvm.Cond.initialized "CardRights$Right") ∈ lw_tbl := List.mem_of_getElem? (i := 68) (by decide +kernel)
theorem w_26 : (Jvm.Cond.initialized "CardRights$Row") ∈ lw_tbl := List.mem_of_getElem? (i := 69) (by decide +kernel)
theorem w_31 : (Jvm.Cond.code ({ cls := "CardRights", name := "<init>", desc := "()V" } : Jvm.MethodName) prog_1_method_1_code (1 : Nat) (Option.none : Option FieldType)) ∈ lw_tbl := List.mem_of_getElem? (i := 74) (by decide +kernel)
theorem w_32 : (Jvm.Cond.methodLink "CardRights" (1 : Nat) ({ cls := "java/lang/Object", name := "<init>", desc := "()V" } : Jvm.MethodName)) ∈ lw_tbl := List.mem_of_getElem? (i := 75) (by decide +kernel)
theorem w_33 : (Jvm.Cond.instanceMethod ({ cls := "java/lang/Object", name := "<init>", desc := "()V" } : Jvm.MethodName)) ∈ lw_tbl := List.mem_of_getElem? (i := 76) (by decide +kernel)
theorem w_34 : (Jvm.Cond.code ({ cls := "java/lang/Object", name := "<init>", desc := "()V" } : Jvm.MethodName) object_method_1_code (1 : Nat) (Option.none : Option FieldType)) ∈ lw_tbl := List.mem_of_getElem? (i := 77) (by decide +kernel)
theorem w_35 : (Jvm.Cond.classLink "CardRights" (7 : Nat) "java/util/ArrayList") ∈ lw_tbl := List.mem_of_getElem? (i := 78) (by decide +kernel)
theorem w_36 : (Jvm.Cond.instantiable "java/util/ArrayList" (3 : Nat)) ∈ lw_tbl := List.mem_of_getElem? (i := 79) (by decide +kernel)
theorem w_37 : (Jvm.Cond.methodLink "CardRights" (9 : Nat) ({ cls := "java/util/ArrayList", name := "<init>", desc := "()V" } : Jvm.MethodName)) ∈ lw_tbl := List.mem_of_getElem? (i := 80) (by decide +kernel)
theorem w_38 : (Jvm.Cond.instanceMethod ({ cls := "java/util/ArrayList", name := "<init>", desc := "()V" } : Jvm.MethodName)) ∈ lw_tbl := List.mem_of_getElem? (i := 81) (by decide +kernel)
theorem w_39 : (Jvm.Cond.code ({ cls := "java/util/ArrayList", name := "<init>", desc := "()V" } : Jvm.MethodName) prog_27_method_2_code (1 : Nat) (Option.none : Option FieldType)) ∈ lw_tbl := List.mem_of_getElem? (i := 82) (by decide +kernel)
theorem w_40 : (Jvm.Cond.methodLink "java/util/ArrayList" (1 : Nat) ({ cls := "java/util/AbstractList", name := "<init>", desc := "()V" } : Jvm.MethodName)) ∈ lw_tbl := List.mem_of_getElem? (i := 83) (by decide +kernel)
theorem w_41 : (Jvm.Cond.instanceMethod ({ cls := "java/util/AbstractList", name := "<init>", desc := "()V" } : Jvm.MethodName)) ∈ lw_tbl := List.mem_of_getElem? (i := 84) (by decide +kernel)
theorem w_42 : (Jvm.Cond.code ({ cls := "java/util/AbstractList", name := "<init>", desc := "()V" } : Jvm.MethodName) prog_26_method_1_code (1 : Nat) (Option.none : Option FieldType)) ∈ lw_tbl := List.mem_of_getElem? (i := 85) (by decide +kernel)
theorem w_43 : (Jvm.Cond.methodLink "java/util/AbstractList" (1 : Nat) ({ cls := "java/util/AbstractCollection", name := "<init>", desc := "()V" } : Jvm.MethodName)) ∈ lw_tbl := List.mem_of_getElem? (i := 86) (by decide +kernel)
theorem w_44 : (Jvm.Cond.instanceMethod ({ cls := "java/util/AbstractCollection", name := "<init>", desc := "()V" } : Jvm.MethodName)) ∈ lw_tbl := List.mem_of_getElem? (i := 87) (by decide +kernel)
theorem w_45 : (Jvm.Cond.code ({ cls := "java/util/AbstractCollection", name := "<init>", desc := "()V" } : Jvm.MethodName) prog_25_method_1_code (1 : Nat) (Option.none : Option FieldType)) ∈ lw_tbl := List.mem_of_getElem? (i := 88) (by decide +kernel)
theorem w_46 : (Jvm.Cond.methodLink "java/util/AbstractCollection" (1 : Nat) ({ cls := "java/lang/Object", name := "<init>", desc := "()V" } : Jvm.MethodName)) ∈ lw_tbl := List.mem_of_getElem? (i := 89) (by decide +kernel)
theorem w_47 : (Jvm.Cond.fieldLink "java/util/ArrayList" (39 : Nat) "java/util/ArrayList" "DEFAULTCAPACITY_EMPTY_ELEMENTDATA" "[Ljava/lang/Object;") ∈ lw_tbl := List.mem_of_getElem? (i := 90) (by decide +kernel)
theorem w_49 : (Jvm.Cond.fieldLink "java/util/ArrayList" (9 : Nat) "java/util/ArrayList" "elementData" "[Ljava/lang/Object;") ∈ lw_tbl := List.mem_of_getElem? (i := 92) (by decide +kernel)
theorem w_50 : (Jvm.Cond.fieldLink "java/util/ArrayList" (48 : Nat) "java/util/ArrayList" "size" "I") ∈ lw_tbl := List.mem_of_getElem? (i := 93) (by decide +kernel)
theorem w_51 : (Jvm.Cond.fieldLink "java/util/AbstractList" (7 : Nat) "java/util/AbstractList" "modCount" "I") ∈ lw_tbl := List.mem_of_getElem? (i := 94) (by decide +kernel)
theorem w_52 : (Jvm.Cond.fieldLink "java/util/ArrayList" (63 : Nat) "java/util/ArrayList" "modCount" "I") ∈ lw_tbl := List.mem_of_getElem? (i := 95) (by decide +kernel)
theorem w_53 : (Jvm.Cond.sameField "java/util/ArrayList" "java/util/AbstractList" "modCount" "I") ∈ lw_tbl := List.mem_of_getElem? (i := 96) (by decide +kernel)
theorem w_54 : (Jvm.Cond.lays "java/util/ArrayList" "java/util/ArrayList" "elementData" "[Ljava/lang/Object;") ∈ lw_tbl := List.mem_of_getElem? (i := 97) (by decide +kernel)
theorem w_56 : (Jvm.Cond.lays "java/util/ArrayList" "java/util/ArrayList" "size" "I") ∈ lw_tbl := List.mem_of_getElem? (i := 99) (by decide +kernel)
theorem w_58 : (Jvm.Cond.lays "java/util/ArrayList" "java/util/AbstractList" "modCount" "I") ∈ lw_tbl := List.mem_of_getElem? (i := 101) (by decide +kernel)
theorem w_61 : (Jvm.Cond.classLink "CardRights" (28 : Nat) "CardRights$Knowledge") ∈ lw_tbl := List.mem_of_getElem? (i := 104) (by decide +kernel)
theorem w_62 : (Jvm.Cond.instantiable "CardRights$Knowledge" (4 : Nat)) ∈ lw_tbl := List.mem_of_getElem? (i := 105) (by decide +kernel)
theorem w_63 : (Jvm.Cond.methodLinkNest "CardRights" (30 : Nat) ({ cls := "CardRights$Knowledge", name := "<init>", desc := "()V" } : Jvm.MethodName) "CardRights") ∈ lw_tbl := List.mem_of_getElem? (i := 106) (by decide +kernel)
theorem w_64 : (Jvm.Cond.instanceMethod ({ cls := "CardRights$Knowledge", name := "<init>", desc := "()V" } : Jvm.MethodName)) ∈ lw_tbl := List.mem_of_getElem? (i := 107) (by decide +kernel)
theorem w_65 : (Jvm.Cond.code ({ cls := "CardRights$Knowledge", name := "<init>", desc := "()V" } : Jvm.MethodName) prog_5_method_1_code (1 : Nat) (Option.none : Option FieldType)) ∈ lw_tbl := List.mem_of_getElem? (i := 108) (by decide +kernel)
theorem w_66 : (Jvm.Cond.methodLink "CardRights$Knowledge" (3 : Nat) ({ cls := "java/lang/Object", name := "<init>", desc := "()V" } : Jvm.MethodName)) ∈ lw_tbl := List.mem_of_getElem? (i := 109) (by decide +kernel)
theorem w_67 : (Jvm.Cond.methodLink "CardRights$Knowledge" (25 : Nat) ({ cls := "java/util/Arrays", name := "fill", desc := "([II)V" } : Jvm.MethodName)) ∈ lw_tbl := List.mem_of_getElem? (i := 110) (by decide +kernel)
theorem w_68 : (Jvm.Cond.static ({ cls := "java/util/Arrays", name := "fill", desc := "([II)V" } : Jvm.MethodName)) ∈ lw_tbl := List.mem_of_getElem? (i := 111) (by decide +kernel)
theorem w_69 : (Jvm.Cond.code ({ cls := "java/util/Arrays", name := "fill", desc := "([II)V" } : Jvm.MethodName) prog_28_method_103_code (4 : Nat) (Option.none : Option FieldType)) ∈ lw_tbl := List.mem_of_getElem? (i := 112) (by decide +kernel)
theorem w_70 : (Jvm.Cond.fieldLink "CardRights$Knowledge" (9 : Nat) "CardRights$Knowledge" "cardCount" "I") ∈ lw_tbl := List.mem_of_getElem? (i := 113) (by decide +kernel)
theorem w_71 : (Jvm.Cond.fieldLinkNest "CardRights" (140 : Nat) "CardRights$Knowledge" "cardCount" "I" "CardRights") ∈ lw_tbl := List.mem_of_getElem? (i := 114) (by decide +kernel)
theorem w_72 : (Jvm.Cond.fieldLink "CardRights$Knowledge" (15 : Nat) "CardRights$Knowledge" "rightCount" "I") ∈ lw_tbl := List.mem_of_getElem? (i := 115) (by decide +kernel)
theorem w_73 : (Jvm.Cond.fieldLinkNest "CardRights" (154 : Nat) "CardRights$Knowledge" "rightCount" "I" "CardRights") ∈ lw_tbl := List.mem_of_getElem? (i := 116) (by decide +kernel)
theorem w_74 : (Jvm.Cond.fieldLink "CardRights$Knowledge" (18 : Nat) "CardRights$Knowledge" "lostFrom" "[I") ∈ lw_tbl := List.mem_of_getElem? (i := 117) (by decide +kernel)
theorem w_75 : (Jvm.Cond.fieldLinkNest "CardRights" (167 : Nat) "CardRights$Knowledge" "lostFrom" "[I" "CardRights") ∈ lw_tbl := List.mem_of_getElem? (i := 118) (by decide +kernel)
theorem w_76 : (Jvm.Cond.fieldLink "CardRights$Knowledge" (22 : Nat) "CardRights$Knowledge" "endedFrom" "[I") ∈ lw_tbl := List.mem_of_getElem? (i := 119) (by decide +kernel)
theorem w_77 : (Jvm.Cond.fieldLinkNest "CardRights" (159 : Nat) "CardRights$Knowledge" "endedFrom" "[I" "CardRights") ∈ lw_tbl := List.mem_of_getElem? (i := 120) (by decide +kernel)
theorem w_78 : (Jvm.Cond.lays "CardRights$Knowledge" "CardRights$Knowledge" "cardCount" "I") ∈ lw_tbl := List.mem_of_getElem? (i := 121) (by decide +kernel)
theorem w_80 : (Jvm.Cond.lays "CardRights$Knowledge" "CardRights$Knowledge" "rightCount" "I") ∈ lw_tbl := List.mem_of_getElem? (i := 123) (by decide +kernel)
theorem w_82 : (Jvm.Cond.laysFinal "CardRights$Knowledge" "CardRights$Knowledge" "lostFrom" "[I") ∈ lw_tbl := List.mem_of_getElem? (i := 125) (by decide +kernel)
theorem w_84 : (Jvm.Cond.laysFinal "CardRights$Knowledge" "CardRights$Knowledge" "endedFrom" "[I") ∈ lw_tbl := List.mem_of_getElem? (i := 127) (by decide +kernel)
theorem w_87 : (Jvm.Cond.arrayClass FieldType.int) ∈ lw_tbl := List.mem_of_getElem? (i := 130) (by decide +kernel)
theorem w_88 : (Jvm.Cond.classLink "CardRights" (35 : Nat) "CardRights$Findings") ∈ lw_tbl := List.mem_of_getElem? (i := 131) (by decide +kernel)
theorem w_89 : (Jvm.Cond.instantiable "CardRights$Findings" (2 : Nat)) ∈ lw_tbl := List.mem_of_getElem? (i := 132) (by decide +kernel)
theorem w_90 : (Jvm.Cond.methodLinkNest "CardRights" (37 : Nat) ({ cls := "CardRights$Findings", name := "<init>", desc := "()V" } : Jvm.MethodName) "CardRights") ∈ lw_tbl := List.mem_of_getElem? (i := 133) (by decide +kernel)
theorem w_91 : (Jvm.Cond.instanceMethod ({ cls := "CardRights$Findings", name := "<init>", desc := "()V" } : Jvm.MethodName)) ∈ lw_tbl := List.mem_of_getElem? (i := 134) (by decide +kernel)
theorem w_92 : (Jvm.Cond.code ({ cls := "CardRights$Findings", name := "<init>", desc := "()V" } : Jvm.MethodName) prog_4_method_1_code (1 : Nat) (Option.none : Option FieldType)) ∈ lw_tbl := List.mem_of_getElem? (i := 135) (by decide +kernel)
theorem w_93 : (Jvm.Cond.methodLink "CardRights$Findings" (3 : Nat) ({ cls := "java/lang/Object", name := "<init>", desc := "()V" } : Jvm.MethodName)) ∈ lw_tbl := List.mem_of_getElem? (i := 136) (by decide +kernel)
theorem w_94 : (Jvm.Cond.fieldLink "CardRights$Findings" (11 : Nat) "CardRights$Findings" "parts" "[I") ∈ lw_tbl := List.mem_of_getElem? (i := 137) (by decide +kernel)
theorem w_95 : (Jvm.Cond.fieldLinkNest "CardRights" (252 : Nat) "CardRights$Findings" "parts" "[I" "CardRights") ∈ lw_tbl := List.mem_of_getElem? (i := 138) (by decide +kernel)
theorem w_96 : (Jvm.Cond.fieldLink "CardRights$Findings" (15 : Nat) "CardRights$Findings" "count" "I") ∈ lw_tbl := List.mem_of_getElem? (i := 139) (by decide +kernel)
theorem w_97 : (Jvm.Cond.fieldLinkNest "CardRights" (242 : Nat) "CardRights$Findings" "count" "I" "CardRights") ∈ lw_tbl := List.mem_of_getElem? (i := 140) (by decide +kernel)
theorem w_98 : (Jvm.Cond.laysFinal "CardRights$Findings" "CardRights$Findings" "parts" "[I") ∈ lw_tbl := List.mem_of_getElem? (i := 141) (by decide +kernel)
theorem w_100 : (Jvm.Cond.lays "CardRights$Findings" "CardRights$Findings" "count" "I") ∈ lw_tbl := List.mem_of_getElem? (i := 143) (by decide +kernel)
theorem w_103 : (Jvm.Cond.classLink "CardRights" (42 : Nat) "CardRights$Uses") ∈ lw_tbl := List.mem_of_getElem? (i := 146) (by decide +kernel)
theorem w_104 : (Jvm.Cond.instantiable "CardRights$Uses" (2 : Nat)) ∈ lw_tbl := List.mem_of_getElem? (i := 147) (by decide +kernel)
theorem w_105 : (Jvm.Cond.methodLinkNest "CardRights" (44 : Nat) ({ cls := "CardRights$Uses", name := "<init>", desc := "()V" } : Jvm.MethodName) "CardRights") ∈ lw_tbl := List.mem_of_getElem? (i := 148) (by decide +kernel)
theorem w_106 : (Jvm.Cond.instanceMethod ({ cls := "CardRights$Uses", name := "<init>", desc := "()V" } : Jvm.MethodName)) ∈ lw_tbl := List.mem_of_getElem? (i := 149) (by decide +kernel)
theorem w_107 : (Jvm.Cond.code ({ cls := "CardRights$Uses", name := "<init>", desc := "()V" } : Jvm.MethodName) prog_11_method_1_code (1 : Nat) (Option.none : Option FieldType)) ∈ lw_tbl := List.mem_of_getElem? (i := 150) (by decide +kernel)
theorem w_108 : (Jvm.Cond.methodLink "CardRights$Uses" (3 : Nat) ({ cls := "java/lang/Object", name := "<init>", desc := "()V" } : Jvm.MethodName)) ∈ lw_tbl := List.mem_of_getElem? (i := 151) (by decide +kernel)
theorem w_109 : (Jvm.Cond.fieldLink "CardRights$Uses" (11 : Nat) "CardRights$Uses" "words" "[J") ∈ lw_tbl := List.mem_of_getElem? (i := 152) (by decide +kernel)
theorem w_110 : (Jvm.Cond.fieldLinkNest "CardRights" (259 : Nat) "CardRights$Uses" "words" "[J" "CardRights") ∈ lw_tbl := List.mem_of_getElem? (i := 153) (by decide +kernel)
theorem w_111 : (Jvm.Cond.fieldLink "CardRights$Uses" (15 : Nat) "CardRights$Uses" "count" "I") ∈ lw_tbl := List.mem_of_getElem? (i := 154) (by decide +kernel)
theorem w_112 : (Jvm.Cond.fieldLinkNest "CardRights" (255 : Nat) "CardRights$Uses" "count" "I" "CardRights") ∈ lw_tbl := List.mem_of_getElem? (i := 155) (by decide +kernel)
theorem w_113 : (Jvm.Cond.laysFinal "CardRights$Uses" "CardRights$Uses" "words" "[J") ∈ lw_tbl := List.mem_of_getElem? (i := 156) (by decide +kernel)
theorem w_115 : (Jvm.Cond.lays "CardRights$Uses" "CardRights$Uses" "count" "I") ∈ lw_tbl := List.mem_of_getElem? (i := 158) (by decide +kernel)
theorem w_118 : (Jvm.Cond.arrayClass FieldType.long) ∈ lw_tbl := List.mem_of_getElem? (i := 161) (by decide +kernel)
theorem w_119 : (Jvm.Cond.classLink "CardRights" (49 : Nat) "CardRights$Needs") ∈ lw_tbl := List.mem_of_getElem? (i := 162) (by decide +kernel)
theorem w_120 : (Jvm.Cond.instantiable "CardRights$Needs" (2 : Nat)) ∈ lw_tbl := List.mem_of_getElem? (i := 163) (by decide +kernel)
theorem w_121 : (Jvm.Cond.methodLinkNest "CardRights" (51 : Nat) ({ cls := "CardRights$Needs", name := "<init>", desc := "()V" } : Jvm.MethodName) "CardRights") ∈ lw_tbl := List.mem_of_getElem? (i := 164) (by decide +kernel)
theorem w_122 : (Jvm.Cond.instanceMethod ({ cls := "CardRights$Needs", name := "<init>", desc := "()V" } : Jvm.MethodName)) ∈ lw_tbl := List.mem_of_getElem? (i := 165) (by decide +kernel)
theorem w_123 : (Jvm.Cond.code ({ cls := "CardRights$Needs", name := "<init>", desc := "()V" } : Jvm.MethodName) prog_6_method_1_code (1 : Nat) (Option.none : Option FieldType)) ∈ lw_tbl := List.mem_of_getElem? (i := 166) (by decide +kernel)
theorem w_124 : (Jvm.Cond.methodLink "CardRights$Needs" (3 : Nat) ({ cls := "java/lang/Object", name := "<init>", desc := "()V" } : Jvm.MethodName)) ∈ lw_tbl := List.mem_of_getElem? (i := 167) (by decide +kernel)
theorem w_125 : (Jvm.Cond.fieldLink "CardRights$Needs" (9 : Nat) "CardRights$Needs" "sets" "[I") ∈ lw_tbl := List.mem_of_getElem? (i := 168) (by decide +kernel)
theorem w_126 : (Jvm.Cond.fieldLink "CardRights$Needs" (15 : Nat) "CardRights$Needs" "count" "I") ∈ lw_tbl := List.mem_of_getElem? (i := 169) (by decide +kernel)
theorem w_127 : (Jvm.Cond.laysFinal "CardRights$Needs" "CardRights$Needs" "sets" "[I") ∈ lw_tbl := List.mem_of_getElem? (i := 170) (by decide +kernel)
theorem w_129 : (Jvm.Cond.lays "CardRights$Needs" "CardRights$Needs" "count" "I") ∈ lw_tbl := List.mem_of_getElem? (i := 172) (by decide +kernel)
theorem w_132 : (Jvm.Cond.fieldLink "CardRights" (10 : Nat) "CardRights" "rooms" "Ljava/util/List;") ∈ lw_tbl := List.mem_of_getElem? (i := 175) (by decide +kernel)
theorem w_133 : (Jvm.Cond.fieldLink "CardRights" (16 : Nat) "CardRights" "doors" "Ljava/util/List;") ∈ lw_tbl := List.mem_of_getElem? (i := 176) (by decide +kernel)
theorem w_134 : (Jvm.Cond.fieldLink "CardRights" (19 : Nat) "CardRights" "persons" "Ljava/util/List;") ∈ lw_tbl := List.mem_of_getElem? (i := 177) (by decide +kernel)
theorem w_135 : (Jvm.Cond.fieldLink "CardRights" (22 : Nat) "CardRights" "cards" "Ljava/util/List;") ∈ lw_tbl := List.mem_of_getElem? (i := 178) (by decide +kernel)
theorem w_136 : (Jvm.Cond.fieldLink "CardRights" (25 : Nat) "CardRights" "rights" "Ljava/util/List;") ∈ lw_tbl := List.mem_of_getElem? (i := 179) (by decide +kernel)
theorem w_137 : (Jvm.Cond.fieldLink "CardRights" (31 : Nat) "CardRights" "toldSoFar" "LCardRights$Knowledge;") ∈ lw_tbl := List.mem_of_getElem? (i := 180) (by decide +kernel)
theorem w_138 : (Jvm.Cond.fieldLink "CardRights" (38 : Nat) "CardRights" "findings" "LCardRights$Findings;") ∈ lw_tbl := List.mem_of_getElem? (i := 181) (by decide +kernel)
theorem w_139 : (Jvm.Cond.fieldLink "CardRights" (45 : Nat) "CardRights" "used" "LCardRights$Uses;") ∈ lw_tbl := List.mem_of_getElem? (i := 182) (by decide +kernel)
theorem w_140 : (Jvm.Cond.fieldLink "CardRights" (52 : Nat) "CardRights" "needs" "LCardRights$Needs;") ∈ lw_tbl := List.mem_of_getElem? (i := 183) (by decide +kernel)
theorem w_141 : (Jvm.Cond.fieldLink "CardRights" (56 : Nat) "CardRights" "latest" "I") ∈ lw_tbl := List.mem_of_getElem? (i := 184) (by decide +kernel)
theorem w_142 : (Jvm.Cond.laysFinal "CardRights" "CardRights" "rooms" "Ljava/util/List;") ∈ lw_tbl := List.mem_of_getElem? (i := 185) (by decide +kernel)
theorem w_144 : (Jvm.Cond.laysFinal "CardRights" "CardRights" "doors" "Ljava/util/List;") ∈ lw_tbl := List.mem_of_getElem? (i := 187) (by decide +kernel)
theorem w_146 : (Jvm.Cond.laysFinal "CardRights" "CardRights" "persons" "Ljava/util/List;") ∈ lw_tbl := List.mem_of_getElem? (i := 189) (by decide +kernel)
theorem w_148 : (Jvm.Cond.laysFinal "CardRights" "CardRights" "cards" "Ljava/util/List;") ∈ lw_tbl := List.mem_of_getElem? (i := 191) (by decide +kernel)
theorem w_150 : (Jvm.Cond.laysFinal "CardRights" "CardRights" "rights" "Ljava/util/List;") ∈ lw_tbl := List.mem_of_getElem? (i := 193) (by decide +kernel)
theorem w_152 : (Jvm.Cond.laysFinal "CardRights" "CardRights" "toldSoFar" "LCardRights$Knowledge;") ∈ lw_tbl := List.mem_of_getElem? (i := 195) (by decide +kernel)
theorem w_154 : (Jvm.Cond.laysFinal "CardRights" "CardRights" "findings" "LCardRights$Findings;") ∈ lw_tbl := List.mem_of_getElem? (i := 197) (by decide +kernel)
theorem w_156 : (Jvm.Cond.laysFinal "CardRights" "CardRights" "used" "LCardRights$Uses;") ∈ lw_tbl := List.mem_of_getElem? (i := 199) (by decide +kernel)
theorem w_158 : (Jvm.Cond.laysFinal "CardRights" "CardRights" "needs" "LCardRights$Needs;") ∈ lw_tbl := List.mem_of_getElem? (i := 201) (by decide +kernel)
theorem w_160 : (Jvm.Cond.lays "CardRights" "CardRights" "latest" "I") ∈ lw_tbl := List.mem_of_getElem? (i := 203) (by decide +kernel)
theorem w_166 : (Jvm.Cond.code ({ cls := "CardRights", name := "against", desc := "()I" } : Jvm.MethodName) prog_1_method_18_code (1 : Nat) (Option.some FieldType.int)) ∈ lw_tbl := List.mem_of_getElem? (i := 209) (by decide +kernel)
theorem w_170 : (Jvm.Cond.code ({ cls := "CardRights", name := "uses", desc := "()I" } : Jvm.MethodName) prog_1_method_20_code (1 : Nat) (Option.some FieldType.int)) ∈ lw_tbl := List.mem_of_getElem? (i := 213) (by decide +kernel)
theorem w_174 : (Jvm.Cond.code ({ cls := "CardRights", name := "fewest", desc := "()I" } : Jvm.MethodName) prog_1_method_21_code (5 : Nat) (Option.some FieldType.int)) ∈ lw_tbl := List.mem_of_getElem? (i := 217) (by decide +kernel)
theorem w_175 : (Jvm.Cond.methodLinkNest "CardRights" (256 : Nat) ({ cls := "CardRights$Needs", name := "clear", desc := "()V" } : Jvm.MethodName) "CardRights") ∈ lw_tbl := List.mem_of_getElem? (i := 218) (by decide +kernel)
theorem w_177 : (Jvm.Cond.instanceMethod ({ cls := "CardRights$Needs", name := "clear", desc := "()V" } : Jvm.MethodName)) ∈ lw_tbl := List.mem_of_getElem? (i := 220) (by decide +kernel)
theorem w_178 : (Jvm.Cond.code ({ cls := "CardRights$Needs", name := "clear", desc := "()V" } : Jvm.MethodName) prog_6_method_2_code (1 : Nat) (Option.none : Option FieldType)) ∈ lw_tbl := List.mem_of_getElem? (i := 221) (by decide +kernel)
theorem w_179 : (Jvm.Cond.methodLink "CardRights" (263 : Nat) ({ cls := "CardRights", name := "rightsThatHave", desc := "(I)I" } : Jvm.MethodName)) ∈ lw_tbl := List.mem_of_getElem? (i := 222) (by decide +kernel)
theorem w_181 : (Jvm.Cond.instanceMethod ({ cls := "CardRights", name := "rightsThatHave", desc := "(I)I" } : Jvm.MethodName)) ∈ lw_tbl := List.mem_of_getElem? (i := 224) (by decide +kernel)
theorem w_182 : (Jvm.Cond.code ({ cls := "CardRights", name := "rightsThatHave", desc := "(I)I" } : Jvm.MethodName) prog_1_method_41_code (7 : Nat) (Option.some FieldType.int)) ∈ lw_tbl := List.mem_of_getElem? (i := 225) (by decide +kernel)
theorem w_183 : (Jvm.Cond.methodLinkNest "CardRights" (370 : Nat) ({ cls := "CardRights$Uses", name := "groupOf", desc := "(I)I" } : Jvm.MethodName) "CardRights") ∈ lw_tbl := List.mem_of_getElem? (i := 226) (by decide +kernel)
theorem w_184 : (Jvm.Cond.static ({ cls := "CardRights$Uses", name := "groupOf", desc := "(I)I" } : Jvm.MethodName)) ∈ lw_tbl := List.mem_of_getElem? (i := 227) (by decide +kernel)
theorem w_185 : (Jvm.Cond.code ({ cls := "CardRights$Uses", name := "groupOf", desc := "(I)I" } : Jvm.MethodName) prog_11_method_3_code (1 : Nat) (Option.some FieldType.int)) ∈ lw_tbl := List.mem_of_getElem? (i := 228) (by decide +kernel)
theorem w_186 : (Jvm.Cond.methodLinkNest "CardRights" (373 : Nat) ({ cls := "CardRights$Uses", name := "zoneOf", desc := "(I)I" } : Jvm.MethodName) "CardRights") ∈ lw_tbl := List.mem_of_getElem? (i := 229) (by decide +kernel)
theorem w_187 : (Jvm.Cond.static ({ cls := "CardRights$Uses", name := "zoneOf", desc := "(I)I" } : Jvm.MethodName)) ∈ lw_tbl := List.mem_of_getElem? (i := 230) (by decide +kernel)
theorem w_188 : (Jvm.Cond.code ({ cls := "CardRights$Uses", name := "zoneOf", desc := "(I)I" } : Jvm.MethodName) prog_11_method_4_code (1 : Nat) (Option.some FieldType.int)) ∈ lw_tbl := List.mem_of_getElem? (i := 231) (by decide +kernel)
theorem w_189 : (Jvm.Cond.methodLinkNest "CardRights" (376 : Nat) ({ cls := "CardRights$Uses", name := "timeOf", desc := "(I)I" } : Jvm.MethodName) "CardRights") ∈ lw_tbl := List.mem_of_getElem? (i := 232) (by decide +kernel)
theorem w_190 : (Jvm.Cond.static ({ cls := "CardRights$Uses", name := "timeOf", desc := "(I)I" } : Jvm.MethodName)) ∈ lw_tbl := List.mem_of_getElem? (i := 233) (by decide +kernel)
theorem w_191 : (Jvm.Cond.code ({ cls := "CardRights$Uses", name := "timeOf", desc := "(I)I" } : Jvm.MethodName) prog_11_method_5_code (1 : Nat) (Option.some FieldType.int)) ∈ lw_tbl := List.mem_of_getElem? (i := 234) (by decide +kernel)
theorem w_193 : (Jvm.Cond.methodLink "CardRights" (64 : Nat) ({ cls := "java/util/List", name := "size", desc := "()I" } : Jvm.MethodName)) ∈ lw_tbl := List.mem_of_getElem? (i := 236) (by decide +kernel)
theorem w_194 : (Jvm.Cond.interfaceMethod "java/util/List" "java/util/List" "size" "()I") ∈ lw_tbl := List.mem_of_getElem? (i := 237) (by decide +kernel)
theorem w_195 : (Jvm.Cond.declares ({ cls := "java/util/List", name := "size", desc := "()I" } : Jvm.MethodName)) ∈ lw_tbl := List.mem_of_getElem? (i := 238) (by decide +kernel)
theorem w_196 : (Jvm.Cond.castable "java/util/ArrayList" "java/util/List") ∈ lw_tbl := List.mem_of_getElem? (i := 239) (by decide +kernel)
theorem w_197 : (Jvm.Cond.selects "java/util/ArrayList" ({ cls := "java/util/List", name := "size", desc := "()I" } : Jvm.MethodName) ({ cls := "java/util/ArrayList", name := "size", desc := "()I" } : Jvm.MethodName)) ∈ lw_tbl := List.mem_of_getElem? (i := 240) (by decide +kernel)
theorem w_198 : (Jvm.Cond.unhidden "java/util/ArrayList" "size" "()I") ∈ lw_tbl := List.mem_of_getElem? (i := 241) (by decide +kernel)
theorem w_199 : (Jvm.Cond.instanceMethod ({ cls := "java/util/ArrayList", name := "size", desc := "()I" } : Jvm.MethodName)) ∈ lw_tbl := List.mem_of_getElem? (i := 242) (by decide +kernel)
theorem w_200 : (Jvm.Cond.publicMethod ({ cls := "java/util/ArrayList", name := "size", desc := "()I" } : Jvm.MethodName)) ∈ lw_tbl := List.mem_of_getElem? (i := 243) (by decide +kernel)
theorem w_201 : (Jvm.Cond.code ({ cls := "java/util/ArrayList", name := "size", desc := "()I" } : Jvm.MethodName) prog_27_method_8_code (1 : Nat) (Option.some FieldType.int)) ∈ lw_tbl := List.mem_of_getElem? (i := 244) (by decide +kernel)
theorem w_203 : (Jvm.Cond.methodLink "CardRights" (119 : Nat) ({ cls := "java/util/List", name := "get", desc := "(I)Ljava/lang/Object;" } : Jvm.MethodName)) ∈ lw_tbl := List.mem_of_getElem? (i := 246) (by decide +kernel)
theorem w_204 : (Jvm.Cond.interfaceMethod "java/util/List" "java/util/List" "get" "(I)Ljava/lang/Object;") ∈ lw_tbl := List.mem_of_getElem? (i := 247) (by decide +kernel)
theorem w_205 : (Jvm.Cond.declares ({ cls := "java/util/List", name := "get", desc := "(I)Ljava/lang/Object;" } : Jvm.MethodName)) ∈ lw_tbl := List.mem_of_getElem? (i := 248) (by decide +kernel)
theorem w_206 : (Jvm.Cond.selects "java/util/ArrayList" ({ cls := "java/util/List", name := "get", desc := "(I)Ljava/lang/Object;" } : Jvm.MethodName) ({ cls := "java/util/ArrayList", name := "get", desc := "(I)Ljava/lang/Object;" } : Jvm.MethodName)) ∈ lw_tbl := List.mem_of_getElem? (i := 249) (by decide +kernel)
theorem w_207 : (Jvm.Cond.unhidden "java/util/ArrayList" "get" "(I)Ljava/lang/Object;") ∈ lw_tbl := List.mem_of_getElem? (i := 250) (by decide +kernel)
theorem w_208 : (Jvm.Cond.instanceMethod ({ cls := "java/util/ArrayList", name := "get", desc := "(I)Ljava/lang/Object;" } : Jvm.MethodName)) ∈ lw_tbl := List.mem_of_getElem? (i := 251) (by decide +kernel)
theorem w_209 : (Jvm.Cond.publicMethod ({ cls := "java/util/ArrayList", name := "get", desc := "(I)Ljava/lang/Object;" } : Jvm.MethodName)) ∈ lw_tbl := List.mem_of_getElem? (i := 252) (by decide +kernel)
theorem w_210 : (Jvm.Cond.code ({ cls := "java/util/ArrayList", name := "get", desc := "(I)Ljava/lang/Object;" } : Jvm.MethodName) prog_27_method_20_code (2 : Nat) (Option.some (FieldType.object "java/lang/Object"))) ∈ lw_tbl := List.mem_of_getElem? (i := 253) (by decide +kernel)
theorem w_211 : (Jvm.Cond.methodLink "java/util/ArrayList" (118 : Nat) ({ cls := "java/util/Objects", name := "checkIndex", desc := "(II)I" } : Jvm.MethodName)) ∈ lw_tbl := List.mem_of_getElem? (i := 254) (by decide +kernel)
theorem w_212 : (Jvm.Cond.static ({ cls := "java/util/Objects", name := "checkIndex", desc := "(II)I" } : Jvm.MethodName)) ∈ lw_tbl := List.mem_of_getElem? (i := 255) (by decide +kernel)
theorem w_213 : (Jvm.Cond.code ({ cls := "java/util/Objects", name := "checkIndex", desc := "(II)I" } : Jvm.MethodName) prog_31_method_17_code (2 : Nat) (Option.some FieldType.int)) ∈ lw_tbl := List.mem_of_getElem? (i := 256) (by decide +kernel)
theorem w_214 : (Jvm.Cond.methodLink "java/util/Objects" (105 : Nat) ({ cls := "jdk/internal/util/Preconditions", name := "checkIndex", desc := "(IILjava/util/function/BiFunction;)I" } : Jvm.MethodName)) ∈ lw_tbl := List.mem_of_getElem? (i := 257) (by decide +kernel)
theorem w_215 : (Jvm.Cond.static ({ cls := "jdk/internal/util/Preconditions", name := "checkIndex", desc := "(IILjava/util/function/BiFunction;)I" } : Jvm.MethodName)) ∈ lw_tbl := List.mem_of_getElem? (i := 258) (by decide +kernel)
theorem w_216 : (Jvm.Cond.code ({ cls := "jdk/internal/util/Preconditions", name := "checkIndex", desc := "(IILjava/util/function/BiFunction;)I" } : Jvm.MethodName) prog_35_method_11_code (3 : Nat) (Option.some FieldType.int)) ∈ lw_tbl := List.mem_of_getElem? (i := 259) (by decide +kernel)
theorem w_217 : (Jvm.Cond.methodLink "java/util/ArrayList" (123 : Nat) ({ cls := "java/util/ArrayList", name := "elementData", desc := "(I)Ljava/lang/Object;" } : Jvm.MethodName)) ∈ lw_tbl := List.mem_of_getElem? (i := 260) (by decide +kernel)
theorem w_218 : (Jvm.Cond.instanceMethod ({ cls := "java/util/ArrayList", name := "elementData", desc := "(I)Ljava/lang/Object;" } : Jvm.MethodName)) ∈ lw_tbl := List.mem_of_getElem? (i := 261) (by decide +kernel)
theorem w_219 : (Jvm.Cond.selects "java/util/ArrayList" ({ cls := "java/util/ArrayList", name := "elementData", desc := "(I)Ljava/lang/Object;" } : Jvm.MethodName) ({ cls := "java/util/ArrayList", name := "elementData", desc := "(I)Ljava/lang/Object;" } : Jvm.MethodName)) ∈ lw_tbl := List.mem_of_getElem? (i := 262) (by decide +kernel)
theorem w_220 : (Jvm.Cond.code ({ cls := "java/util/ArrayList", name := "elementData", desc := "(I)Ljava/lang/Object;" } : Jvm.MethodName) prog_27_method_18_code (2 : Nat) (Option.some (FieldType.object "java/lang/Object"))) ∈ lw_tbl := List.mem_of_getElem? (i := 263) (by decide +kernel)
theorem w_221 : (Jvm.Cond.classLink "CardRights" (149 : Nat) "CardRights$Right") ∈ lw_tbl := List.mem_of_getElem? (i := 264) (by decide +kernel)
theorem w_222 : (Jvm.Cond.methodLinkNest "CardRights" (333 : Nat) ({ cls := "CardRights$Right", name := "isFor", desc := "(III)Z" } : Jvm.MethodName) "CardRights") ∈ lw_tbl := List.mem_of_getElem? (i := 265) (by decide +kernel)
theorem w_224 : (Jvm.Cond.instanceMethod ({ cls := "CardRights$Right", name := "isFor", desc := "(III)Z" } : Jvm.MethodName)) ∈ lw_tbl := List.mem_of_getElem? (i := 267) (by decide +kernel)
theorem w_225 : (Jvm.Cond.instantiable "CardRights$Right" (5 : Nat)) ∈ lw_tbl := List.mem_of_getElem? (i := 268) (by decide +kernel)
theorem w_226 : (Jvm.Cond.code ({ cls := "CardRights$Right", name := "isFor", desc := "(III)Z" } : Jvm.MethodName) prog_8_method_2_code (4 : Nat) (Option.some FieldType.boolean)) ∈ lw_tbl := List.mem_of_getElem? (i := 269) (by decide +kernel)
theorem w_227 : (Jvm.Cond.methodLink "CardRights$Right" (25 : Nat) ({ cls := "CardRights$Right", name := "spans", desc := "(I)Z" } : Jvm.MethodName)) ∈ lw_tbl := List.mem_of_getElem? (i := 270) (by decide +kernel)
theorem w_229 : (Jvm.Cond.instanceMethod ({ cls := "CardRights$Right", name := "spans", desc := "(I)Z" } : Jvm.MethodName)) ∈ lw_tbl := List.mem_of_getElem? (i := 272) (by decide +kernel)
theorem w_230 : (Jvm.Cond.code ({ cls := "CardRights$Right", name := "spans", desc := "(I)Z" } : Jvm.MethodName) prog_8_method_3_code (2 : Nat) (Option.some FieldType.boolean)) ∈ lw_tbl := List.mem_of_getElem? (i := 273) (by decide +kernel)
theorem w_231 : (Jvm.Cond.methodLinkNest "CardRights" (267 : Nat) ({ cls := "CardRights$Needs", name := "add", desc := "(I)V" } : Jvm.MethodName) "CardRights") ∈ lw_tbl := List.mem_of_getElem? (i := 274) (by decide +kernel)
theorem w_233 : (Jvm.Cond.instanceMethod ({ cls := "CardRights$Needs", name := "add", desc := "(I)V" } : Jvm.MethodName)) ∈ lw_tbl := List.mem_of_getElem? (i := 276) (by decide +kernel)
theorem w_234 : (Jvm.Cond.code ({ cls := "CardRights$Needs", name := "add", desc := "(I)V" } : Jvm.MethodName) prog_6_method_3_code (3 : Nat) (Option.none : Option FieldType)) ∈ lw_tbl := List.mem_of_getElem? (i := 277) (by decide +kernel)
theorem w_235 : (Jvm.Cond.methodLinkNest "CardRights" (269 : Nat) ({ cls := "CardRights$Needs", name := "leastOfTheFewest", desc := "()I" } : Jvm.MethodName) "CardRights") ∈ lw_tbl := List.mem_of_getElem? (i := 278) (by decide +kernel)
theorem w_237 : (Jvm.Cond.instanceMethod ({ cls := "CardRights$Needs", name := "leastOfTheFewest", desc := "()I" } : Jvm.MethodName)) ∈ lw_tbl := List.mem_of_getElem? (i := 280) (by decide +kernel)
theorem w_238 : (Jvm.Cond.code ({ cls := "CardRights$Needs", name := "leastOfTheFewest", desc := "()I" } : Jvm.MethodName) prog_6_method_4_code (3 : Nat) (Option.some FieldType.int)) ∈ lw_tbl := List.mem_of_getElem? (i := 281) (by decide +kernel)
theorem w_239 : (Jvm.Cond.methodLink "CardRights$Needs" (19 : Nat) ({ cls := "CardRights$Needs", name := "leastWith", desc := "(III)I" } : Jvm.MethodName)) ∈ lw_tbl := List.mem_of_getElem? (i := 282) (by decide +kernel)
theorem w_241 : (Jvm.Cond.instanceMethod ({ cls := "CardRights$Needs", name := "leastWith", desc := "(III)I" } : Jvm.MethodName)) ∈ lw_tbl := List.mem_of_getElem? (i := 284) (by decide +kernel)
theorem w_242 : (Jvm.Cond.code ({ cls := "CardRights$Needs", name := "leastWith", desc := "(III)I" } : Jvm.MethodName) prog_6_method_5_code (6 : Nat) (Option.some FieldType.int)) ∈ lw_tbl := List.mem_of_getElem? (i := 285) (by decide +kernel)
theorem w_243 : (Jvm.Cond.methodLink "CardRights$Needs" (23 : Nat) ({ cls := "CardRights$Needs", name := "canBeMet", desc := "(III)Z" } : Jvm.MethodName)) ∈ lw_tbl := List.mem_of_getElem? (i := 286) (by decide +kernel)
theorem w_245 : (Jvm.Cond.instanceMethod ({ cls := "CardRights$Needs", name := "canBeMet", desc := "(III)Z" } : Jvm.MethodName)) ∈ lw_tbl := List.mem_of_getElem? (i := 288) (by decide +kernel)
theorem w_246 : (Jvm.Cond.code ({ cls := "CardRights$Needs", name := "canBeMet", desc := "(III)Z" } : Jvm.MethodName) prog_6_method_6_code (8 : Nat) (Option.some FieldType.boolean)) ∈ lw_tbl := List.mem_of_getElem? (i := 289) (by decide +kernel)
theorem w_250 : (Jvm.Cond.code ({ cls := "CardRights", name := "now", desc := "()I" } : Jvm.MethodName) prog_1_method_22_code (1 : Nat) (Option.some FieldType.int)) ∈ lw_tbl := List.mem_of_getElem? (i := 293) (by decide +kernel)
theorem w_259 : (Jvm.Cond.code ({ cls := "CardRights", name := "room", desc := "(I)I" } : Jvm.MethodName) prog_1_method_2_code (3 : Nat) (Option.some FieldType.int)) ∈ lw_tbl := List.mem_of_getElem? (i := 302) (by decide +kernel)
theorem w_260 : (Jvm.Cond.methodLink "CardRights" (60 : Nat) ({ cls := "CardRights", name := "checkZone", desc := "(I)V" } : Jvm.MethodName)) ∈ lw_tbl := List.mem_of_getElem? (i := 303) (by decide +kernel)
theorem w_261 : (Jvm.Cond.static ({ cls := "CardRights", name := "checkZone", desc := "(I)V" } : Jvm.MethodName)) ∈ lw_tbl := List.mem_of_getElem? (i := 304) (by decide +kernel)
theorem w_262 : (Jvm.Cond.code ({ cls := "CardRights", name := "checkZone", desc := "(I)V" } : Jvm.MethodName) prog_1_method_23_code (1 : Nat) (Option.none : Option FieldType)) ∈ lw_tbl := List.mem_of_getElem? (i := 305) (by decide +kernel)
theorem w_263 : (Jvm.Cond.classLink "CardRights" (93 : Nat) "java/lang/IllegalArgumentException") ∈ lw_tbl := List.mem_of_getElem? (i := 306) (by decide +kernel)
theorem w_264 : (Jvm.Cond.instantiable "java/lang/IllegalArgumentException" (6 : Nat)) ∈ lw_tbl := List.mem_of_getElem? (i := 307) (by decide +kernel)
theorem w_290 : (Jvm.Cond.laysStatic "java/lang/Throwable" "UNASSIGNED_STACK" "[Ljava/lang/StackTraceElement;") ∈ lw_tbl := List.mem_of_getElem? (i := 333) (by decide +kernel)
theorem w_292 : (Jvm.Cond.laysStatic "java/lang/Throwable" "SUPPRESSED_SENTINEL" "Ljava/util/List;") ∈ lw_tbl := List.mem_of_getElem? (i := 335) (by decide +kernel)
theorem w_303 : (Jvm.Cond.stringRef "CardRights" (272 : Nat) "there is no such zone") ∈ lw_tbl := List.mem_of_getElem? (i := 346) (by decide +kernel)
theorem w_330 : (Jvm.Cond.classLink "CardRights" (70 : Nat) "java/lang/IllegalStateException") ∈ lw_tbl := List.mem_of_getElem? (i := 373) (by decide +kernel)
theorem w_331 : (Jvm.Cond.instantiable "java/lang/IllegalStateException" (6 : Nat)) ∈ lw_tbl := List.mem_of_getElem? (i := 374) (by decide +kernel)
theorem w_339 : (Jvm.Cond.stringRef "CardRights" (72 : Nat) "there are as many rooms as may be") ∈ lw_tbl := List.mem_of_getElem? (i := 382) (by decide +kernel)
theorem w_346 : (Jvm.Cond.classLink "CardRights" (77 : Nat) "CardRights$Room") ∈ lw_tbl := List.mem_of_getElem? (i := 389) (by decide +kernel)
theorem w_347 : (Jvm.Cond.instantiable "CardRights$Room" (2 : Nat)) ∈ lw_tbl := List.mem_of_getElem? (i := 390) (by decide +kernel)
theorem w_348 : (Jvm.Cond.methodLinkNest "CardRights" (79 : Nat) ({ cls := "CardRights$Room", name := "<init>", desc := "(II)V" } : Jvm.MethodName) "CardRights") ∈ lw_tbl := List.mem_of_getElem? (i := 391) (by decide +kernel)
theorem w_349 : (Jvm.Cond.instanceMethod ({ cls := "CardRights$Room", name := "<init>", desc := "(II)V" } : Jvm.MethodName)) ∈ lw_tbl := List.mem_of_getElem? (i := 392) (by decide +kernel)
theorem w_350 : (Jvm.Cond.code ({ cls := "CardRights$Room", name := "<init>", desc := "(II)V" } : Jvm.MethodName) prog_9_method_1_code (3 : Nat) (Option.none : Option FieldType)) ∈ lw_tbl := List.mem_of_getElem? (i := 393) (by decide +kernel)
theorem w_351 : (Jvm.Cond.methodLink "CardRights$Room" (1 : Nat) ({ cls := "java/lang/Object", name := "<init>", desc := "()V" } : Jvm.MethodName)) ∈ lw_tbl := List.mem_of_getElem? (i := 394) (by decide +kernel)
theorem w_352 : (Jvm.Cond.fieldLink "CardRights$Room" (7 : Nat) "CardRights$Room" "number" "I") ∈ lw_tbl := List.mem_of_getElem? (i := 395) (by decide +kernel)
theorem w_353 : (Jvm.Cond.fieldLinkNest "CardRights" (86 : Nat) "CardRights$Room" "number" "I" "CardRights") ∈ lw_tbl := List.mem_of_getElem? (i := 396) (by decide +kernel)
theorem w_354 : (Jvm.Cond.fieldLink "CardRights$Room" (13 : Nat) "CardRights$Room" "zone" "I") ∈ lw_tbl := List.mem_of_getElem? (i := 397) (by decide +kernel)
theorem w_355 : (Jvm.Cond.fieldLinkNest "CardRights" (237 : Nat) "CardRights$Room" "zone" "I" "CardRights") ∈ lw_tbl := List.mem_of_getElem? (i := 398) (by decide +kernel)
theorem w_356 : (Jvm.Cond.laysFinal "CardRights$Room" "CardRights$Room" "number" "I") ∈ lw_tbl := List.mem_of_getElem? (i := 399) (by decide +kernel)
theorem w_358 : (Jvm.Cond.laysFinal "CardRights$Room" "CardRights$Room" "zone" "I") ∈ lw_tbl := List.mem_of_getElem? (i := 401) (by decide +kernel)
theorem w_362 : (Jvm.Cond.methodLink "CardRights" (82 : Nat) ({ cls := "java/util/List", name := "add", desc := "(Ljava/lang/Object;)Z" } : Jvm.MethodName)) ∈ lw_tbl := List.mem_of_getElem? (i := 405) (by decide +kernel)
theorem w_363 : (Jvm.Cond.interfaceMethod "java/util/List" "java/util/List" "add" "(Ljava/lang/Object;)Z") ∈ lw_tbl := List.mem_of_getElem? (i := 406) (by decide +kernel)
theorem w_364 : (Jvm.Cond.declares ({ cls := "java/util/List", name := "add", desc := "(Ljava/lang/Object;)Z" } : Jvm.MethodName)) ∈ lw_tbl := List.mem_of_getElem? (i := 407) (by decide +kernel)
theorem w_365 : (Jvm.Cond.selects "java/util/ArrayList" ({ cls := "java/util/List", name := "add", desc := "(Ljava/lang/Object;)Z" } : Jvm.MethodName) ({ cls := "java/util/ArrayList", name := "add", desc := "(Ljava/lang/Object;)Z" } : Jvm.MethodName)) ∈ lw_tbl := List.mem_of_getElem? (i := 408) (by decide +kernel)
theorem w_366 : (Jvm.Cond.unhidden "java/util/ArrayList" "add" "(Ljava/lang/Object;)Z") ∈ lw_tbl := List.mem_of_getElem? (i := 409) (by decide +kernel)
theorem w_367 : (Jvm.Cond.instanceMethod ({ cls := "java/util/ArrayList", name := "add", desc := "(Ljava/lang/Object;)Z" } : Jvm.MethodName)) ∈ lw_tbl := List.mem_of_getElem? (i := 410) (by decide +kernel)
theorem w_368 : (Jvm.Cond.publicMethod ({ cls := "java/util/ArrayList", name := "add", desc := "(Ljava/lang/Object;)Z" } : Jvm.MethodName)) ∈ lw_tbl := List.mem_of_getElem? (i := 411) (by decide +kernel)
theorem w_369 : (Jvm.Cond.code ({ cls := "java/util/ArrayList", name := "add", desc := "(Ljava/lang/Object;)Z" } : Jvm.MethodName) prog_27_method_25_code (2 : Nat) (Option.some FieldType.boolean)) ∈ lw_tbl := List.mem_of_getElem? (i := 412) (by decide +kernel)
theorem w_370 : (Jvm.Cond.methodLink "java/util/ArrayList" (131 : Nat) ({ cls := "java/util/ArrayList", name := "add", desc := "(Ljava/lang/Object;[Ljava/lang/Object;I)V" } : Jvm.MethodName)) ∈ lw_tbl := List.mem_of_getElem? (i := 413) (by decide +kernel)
theorem w_372 : (Jvm.Cond.instanceMethod ({ cls := "java/util/ArrayList", name := "add", desc := "(Ljava/lang/Object;[Ljava/lang/Object;I)V" } : Jvm.MethodName)) ∈ lw_tbl := List.mem_of_getElem? (i := 415) (by decide +kernel)
theorem w_373 : (Jvm.Cond.code ({ cls := "java/util/ArrayList", name := "add", desc := "(Ljava/lang/Object;[Ljava/lang/Object;I)V" } : Jvm.MethodName) prog_27_method_24_code (4 : Nat) (Option.none : Option FieldType)) ∈ lw_tbl := List.mem_of_getElem? (i := 416) (by decide +kernel)
theorem w_374 : (Jvm.Cond.methodLink "java/util/ArrayList" (129 : Nat) ({ cls := "java/util/ArrayList", name := "grow", desc := "()[Ljava/lang/Object;" } : Jvm.MethodName)) ∈ lw_tbl := List.mem_of_getElem? (i := 417) (by decide +kernel)
theorem w_376 : (Jvm.Cond.instanceMethod ({ cls := "java/util/ArrayList", name := "grow", desc := "()[Ljava/lang/Object;" } : Jvm.MethodName)) ∈ lw_tbl := List.mem_of_getElem? (i := 419) (by decide +kernel)
theorem w_377 : (Jvm.Cond.code ({ cls := "java/util/ArrayList", name := "grow", desc := "()[Ljava/lang/Object;" } : Jvm.MethodName) prog_27_method_7_code (1 : Nat) (Option.some (FieldType.array (FieldType.object "java/lang/Object")))) ∈ lw_tbl := List.mem_of_getElem? (i := 420) (by decide +kernel)
theorem w_378 : (Jvm.Cond.methodLink "java/util/ArrayList" (69 : Nat) ({ cls := "java/util/ArrayList", name := "grow", desc := "(I)[Ljava/lang/Object;" } : Jvm.MethodName)) ∈ lw_tbl := List.mem_of_getElem? (i := 421) (by decide +kernel)
theorem w_380 : (Jvm.Cond.instanceMethod ({ cls := "java/util/ArrayList", name := "grow", desc := "(I)[Ljava/lang/Object;" } : Jvm.MethodName)) ∈ lw_tbl := List.mem_of_getElem? (i := 423) (by decide +kernel)
theorem w_381 : (Jvm.Cond.code ({ cls := "java/util/ArrayList", name := "grow", desc := "(I)[Ljava/lang/Object;" } : Jvm.MethodName) prog_27_method_6_code (4 : Nat) (Option.some (FieldType.array (FieldType.object "java/lang/Object")))) ∈ lw_tbl := List.mem_of_getElem? (i := 424) (by decide +kernel)
theorem w_382 : (Jvm.Cond.methodLink "java/util/ArrayList" (73 : Nat) ({ cls := "jdk/internal/util/ArraysSupport", name := "newLength", desc := "(III)I" } : Jvm.MethodName)) ∈ lw_tbl := List.mem_of_getElem? (i := 425) (by decide +kernel)
theorem w_383 : (Jvm.Cond.static ({ cls := "jdk/internal/util/ArraysSupport", name := "newLength", desc := "(III)I" } : Jvm.MethodName)) ∈ lw_tbl := List.mem_of_getElem? (i := 426) (by decide +kernel)
theorem w_384 : (Jvm.Cond.code ({ cls := "jdk/internal/util/ArraysSupport", name := "newLength", desc := "(III)I" } : Jvm.MethodName) prog_34_method_27_code (4 : Nat) (Option.some FieldType.int)) ∈ lw_tbl := List.mem_of_getElem? (i := 427) (by decide +kernel)
theorem w_385 : (Jvm.Cond.methodLink "jdk/internal/util/ArraysSupport" (194 : Nat) ({ cls := "java/lang/Math", name := "max", desc := "(II)I" } : Jvm.MethodName)) ∈ lw_tbl := List.mem_of_getElem? (i := 428) (by decide +kernel)
theorem w_386 : (Jvm.Cond.static ({ cls := "java/lang/Math", name := "max", desc := "(II)I" } : Jvm.MethodName)) ∈ lw_tbl := List.mem_of_getElem? (i := 429) (by decide +kernel)
theorem w_387 : (Jvm.Cond.code ({ cls := "java/lang/Math", name := "max", desc := "(II)I" } : Jvm.MethodName) prog_20_method_65_code (2 : Nat) (Option.some FieldType.int)) ∈ lw_tbl := List.mem_of_getElem? (i := 430) (by decide +kernel)
theorem w_388 : (Jvm.Cond.constant "jdk/internal/util/ArraysSupport" (200 : Nat) (2147483639 : Int32)) ∈ lw_tbl := List.mem_of_getElem? (i := 431) (by decide +kernel)
theorem w_389 : (Jvm.Cond.methodLink "jdk/internal/util/ArraysSupport" (201 : Nat) ({ cls := "jdk/internal/util/ArraysSupport", name := "hugeLength", desc := "(II)I" } : Jvm.MethodName)) ∈ lw_tbl := List.mem_of_getElem? (i := 432) (by decide +kernel)
theorem w_390 : (Jvm.Cond.static ({ cls := "jdk/internal/util/ArraysSupport", name := "hugeLength", desc := "(II)I" } : Jvm.MethodName)) ∈ lw_tbl := List.mem_of_getElem? (i := 433) (by decide +kernel)
theorem w_391 : (Jvm.Cond.code ({ cls := "jdk/internal/util/ArraysSupport", name := "hugeLength", desc := "(II)I" } : Jvm.MethodName) prog_34_method_28_code (3 : Nat) (Option.some FieldType.int)) ∈ lw_tbl := List.mem_of_getElem? (i := 434) (by decide +kernel)
theorem w_392 : (Jvm.Cond.methodLink "java/util/ArrayList" (66 : Nat) ({ cls := "java/util/Arrays", name := "copyOf", desc := "([Ljava/lang/Object;I)[Ljava/lang/Object;" } : Jvm.MethodName)) ∈ lw_tbl := List.mem_of_getElem? (i := 435) (by decide +kernel)
theorem w_393 : (Jvm.Cond.static ({ cls := "java/util/Arrays", name := "copyOf", desc := "([Ljava/lang/Object;I)[Ljava/lang/Object;" } : Jvm.MethodName)) ∈ lw_tbl := List.mem_of_getElem? (i := 436) (by decide +kernel)
theorem w_394 : (Jvm.Cond.code ({ cls := "java/util/Arrays", name := "copyOf", desc := "([Ljava/lang/Object;I)[Ljava/lang/Object;" } : Jvm.MethodName) prog_28_method_119_code (2 : Nat) (Option.some (FieldType.array (FieldType.object "java/lang/Object")))) ∈ lw_tbl := List.mem_of_getElem? (i := 437) (by decide +kernel)
theorem w_395 : (Jvm.Cond.methodLink "java/util/Arrays" (86 : Nat) ({ cls := "java/lang/Object", name := "getClass", desc := "()Ljava/lang/Class;" } : Jvm.MethodName)) ∈ lw_tbl := List.mem_of_getElem? (i := 438) (by decide +kernel)
theorem w_396 : (Jvm.Cond.instanceMethod ({ cls := "java/lang/Object", name := "getClass", desc := "()Ljava/lang/Class;" } : Jvm.MethodName)) ∈ lw_tbl := List.mem_of_getElem? (i := 439) (by decide +kernel)
theorem w_413 : (Jvm.Cond.native ({ cls := "java/lang/Object", name := "getClass", desc := "()Ljava/lang/Class;" } : Jvm.MethodName)) ∈ lw_tbl := List.mem_of_getElem? (i := 456) (by decide +kernel)
theorem w_414 : (Jvm.Cond.methodLink "java/util/Arrays" (300 : Nat) ({ cls := "java/util/Arrays", name := "copyOf", desc := "([Ljava/lang/Object;ILjava/lang/Class;)[Ljava/lang/Object;" } : Jvm.MethodName)) ∈ lw_tbl := List.mem_of_getElem? (i := 457) (by decide +kernel)
theorem w_415 : (Jvm.Cond.static ({ cls := "java/util/Arrays", name := "copyOf", desc := "([Ljava/lang/Object;ILjava/lang/Class;)[Ljava/lang/Object;" } : Jvm.MethodName)) ∈ lw_tbl := List.mem_of_getElem? (i := 458) (by decide +kernel)
end
section
theorem w_416 : (Jvm.Cond.code ({ cls := "java/util/Arrays", name := "copyOf", desc := "([Ljava/lang/Object;ILjava/lang/Class;)[Ljava/lang/Object;" } : Jvm.MethodName) prog_28_method_120_code (4 : Nat) (Option.some (FieldType.array (FieldType.object "java/lang/Object")))) ∈ lw_tbl := List.mem_of_getElem? (i := 459) (by decide +kernel)
theorem w_417 : (Jvm.Cond.classLink "java/util/Arrays" (110 : Nat) "[Ljava/lang/Object;") ∈ lw_tbl := List.mem_of_getElem? (i := 460) (by decide +kernel)
theorem w_418 : (Jvm.Cond.arrayOver (FieldType.object "java/lang/Object")) ∈ lw_tbl := List.mem_of_getElem? (i := 461) (by decide +kernel)
theorem w_419 : (Jvm.Cond.classLink "java/util/Arrays" (2 : Nat) "java/lang/Object") ∈ lw_tbl := List.mem_of_getElem? (i := 462) (by decide +kernel)
theorem w_420 : (Jvm.Cond.methodLink "java/util/Arrays" (304 : Nat) ({ cls := "java/lang/Math", name := "min", desc := "(II)I" } : Jvm.MethodName)) ∈ lw_tbl := List.mem_of_getElem? (i := 463) (by decide +kernel)
theorem w_421 : (Jvm.Cond.static ({ cls := "java/lang/Math", name := "min", desc := "(II)I" } : Jvm.MethodName)) ∈ lw_tbl := List.mem_of_getElem? (i := 464) (by decide +kernel)
theorem w_422 : (Jvm.Cond.code ({ cls := "java/lang/Math", name := "min", desc := "(II)I" } : Jvm.MethodName) prog_20_method_69_code (2 : Nat) (Option.some FieldType.int)) ∈ lw_tbl := List.mem_of_getElem? (i := 465) (by decide +kernel)
theorem w_423 : (Jvm.Cond.methodLink "java/util/Arrays" (150 : Nat) ({ cls := "java/lang/System", name := "arraycopy", desc := "(Ljava/lang/Object;ILjava/lang/Object;II)V" } : Jvm.MethodName)) ∈ lw_tbl := List.mem_of_getElem? (i := 466) (by decide +kernel)
theorem w_424 : (Jvm.Cond.static ({ cls := "java/lang/System", name := "arraycopy", desc := "(Ljava/lang/Object;ILjava/lang/Object;II)V" } : Jvm.MethodName)) ∈ lw_tbl := List.mem_of_getElem? (i := 467) (by decide +kernel)
theorem w_425 : (Jvm.Cond.native ({ cls := "java/lang/System", name := "arraycopy", desc := "(Ljava/lang/Object;ILjava/lang/Object;II)V" } : Jvm.MethodName)) ∈ lw_tbl := List.mem_of_getElem? (i := 468) (by decide +kernel)
theorem w_426 : (Jvm.Cond.methodLink "java/util/ArrayList" (79 : Nat) ({ cls := "java/lang/Math", name := "max", desc := "(II)I" } : Jvm.MethodName)) ∈ lw_tbl := List.mem_of_getElem? (i := 469) (by decide +kernel)
theorem w_427 : (Jvm.Cond.classLink "java/util/ArrayList" (7 : Nat) "java/lang/Object") ∈ lw_tbl := List.mem_of_getElem? (i := 470) (by decide +kernel)
theorem w_434 : (Jvm.Cond.code ({ cls := "CardRights", name := "door", desc := "(II)I" } : Jvm.MethodName) prog_1_method_3_code (6 : Nat) (Option.some FieldType.int)) ∈ lw_tbl := List.mem_of_getElem? (i := 477) (by decide +kernel)
theorem w_435 : (Jvm.Cond.methodLink "CardRights" (89 : Nat) ({ cls := "CardRights", name := "roomNumbered", desc := "(I)LCardRights$Room;" } : Jvm.MethodName)) ∈ lw_tbl := List.mem_of_getElem? (i := 478) (by decide +kernel)
theorem w_437 : (Jvm.Cond.instanceMethod ({ cls := "CardRights", name := "roomNumbered", desc := "(I)LCardRights$Room;" } : Jvm.MethodName)) ∈ lw_tbl := List.mem_of_getElem? (i := 480) (by decide +kernel)
theorem w_438 : (Jvm.Cond.code ({ cls := "CardRights", name := "roomNumbered", desc := "(I)LCardRights$Room;" } : Jvm.MethodName) prog_1_method_29_code (2 : Nat) (Option.some (FieldType.object "CardRights$Room"))) ∈ lw_tbl := List.mem_of_getElem? (i := 481) (by decide +kernel)
theorem w_439 : (Jvm.Cond.stringRef "CardRights" (288 : Nat) "there is no such room") ∈ lw_tbl := List.mem_of_getElem? (i := 482) (by decide +kernel)
theorem w_440 : (Jvm.Cond.stringRef "CardRights" (95 : Nat) "a door joins two rooms") ∈ lw_tbl := List.mem_of_getElem? (i := 483) (by decide +kernel)
theorem w_441 : (Jvm.Cond.stringRef "CardRights" (98 : Nat) "there are as many doors as may be") ∈ lw_tbl := List.mem_of_getElem? (i := 484) (by decide +kernel)
theorem w_442 : (Jvm.Cond.classLink "CardRights" (100 : Nat) "CardRights$Door") ∈ lw_tbl := List.mem_of_getElem? (i := 485) (by decide +kernel)
theorem w_443 : (Jvm.Cond.instantiable "CardRights$Door" (10 : Nat)) ∈ lw_tbl := List.mem_of_getElem? (i := 486) (by decide +kernel)
theorem w_444 : (Jvm.Cond.methodLinkNest "CardRights" (102 : Nat) ({ cls := "CardRights$Door", name := "<init>", desc := "(ILCardRights$Room;LCardRights$Room;)V" } : Jvm.MethodName) "CardRights") ∈ lw_tbl := List.mem_of_getElem? (i := 487) (by decide +kernel)
theorem w_445 : (Jvm.Cond.instanceMethod ({ cls := "CardRights$Door", name := "<init>", desc := "(ILCardRights$Room;LCardRights$Room;)V" } : Jvm.MethodName)) ∈ lw_tbl := List.mem_of_getElem? (i := 488) (by decide +kernel)
theorem w_446 : (Jvm.Cond.code ({ cls := "CardRights$Door", name := "<init>", desc := "(ILCardRights$Room;LCardRights$Room;)V" } : Jvm.MethodName) prog_3_method_1_code (4 : Nat) (Option.none : Option FieldType)) ∈ lw_tbl := List.mem_of_getElem? (i := 489) (by decide +kernel)
theorem w_447 : (Jvm.Cond.methodLink "CardRights$Door" (1 : Nat) ({ cls := "java/lang/Object", name := "<init>", desc := "()V" } : Jvm.MethodName)) ∈ lw_tbl := List.mem_of_getElem? (i := 490) (by decide +kernel)
theorem w_448 : (Jvm.Cond.classLink "CardRights$Door" (26 : Nat) "CardRights$Knowledge") ∈ lw_tbl := List.mem_of_getElem? (i := 491) (by decide +kernel)
theorem w_449 : (Jvm.Cond.methodLinkNest "CardRights$Door" (28 : Nat) ({ cls := "CardRights$Knowledge", name := "<init>", desc := "()V" } : Jvm.MethodName) "CardRights") ∈ lw_tbl := List.mem_of_getElem? (i := 492) (by decide +kernel)
theorem w_450 : (Jvm.Cond.classLink "CardRights$Door" (33 : Nat) "java/util/ArrayList") ∈ lw_tbl := List.mem_of_getElem? (i := 493) (by decide +kernel)
theorem w_451 : (Jvm.Cond.methodLink "CardRights$Door" (35 : Nat) ({ cls := "java/util/ArrayList", name := "<init>", desc := "()V" } : Jvm.MethodName)) ∈ lw_tbl := List.mem_of_getElem? (i := 494) (by decide +kernel)
theorem w_452 : (Jvm.Cond.fieldLink "CardRights$Door" (40 : Nat) "CardRights$Door" "number" "I") ∈ lw_tbl := List.mem_of_getElem? (i := 495) (by decide +kernel)
theorem w_453 : (Jvm.Cond.fieldLinkNest "CardRights" (105 : Nat) "CardRights$Door" "number" "I" "CardRights") ∈ lw_tbl := List.mem_of_getElem? (i := 496) (by decide +kernel)
theorem w_454 : (Jvm.Cond.fieldLink "CardRights$Door" (43 : Nat) "CardRights$Door" "roomA" "LCardRights$Room;") ∈ lw_tbl := List.mem_of_getElem? (i := 497) (by decide +kernel)
theorem w_455 : (Jvm.Cond.fieldLinkNest "CardRights" (290 : Nat) "CardRights$Door" "roomA" "LCardRights$Room;" "CardRights") ∈ lw_tbl := List.mem_of_getElem? (i := 498) (by decide +kernel)
theorem w_456 : (Jvm.Cond.fieldLink "CardRights$Door" (47 : Nat) "CardRights$Door" "roomB" "LCardRights$Room;") ∈ lw_tbl := List.mem_of_getElem? (i := 499) (by decide +kernel)
theorem w_457 : (Jvm.Cond.fieldLinkNest "CardRights" (293 : Nat) "CardRights$Door" "roomB" "LCardRights$Room;" "CardRights") ∈ lw_tbl := List.mem_of_getElem? (i := 500) (by decide +kernel)
theorem w_458 : (Jvm.Cond.fieldLink "CardRights$Door" (7 : Nat) "CardRights$Door" "wantsTwo" "Z") ∈ lw_tbl := List.mem_of_getElem? (i := 501) (by decide +kernel)
theorem w_459 : (Jvm.Cond.fieldLinkNest "CardRights" (174 : Nat) "CardRights$Door" "wantsTwo" "Z" "CardRights") ∈ lw_tbl := List.mem_of_getElem? (i := 502) (by decide +kernel)
theorem w_460 : (Jvm.Cond.fieldLink "CardRights$Door" (13 : Nat) "CardRights$Door" "open" "Z") ∈ lw_tbl := List.mem_of_getElem? (i := 503) (by decide +kernel)
theorem w_461 : (Jvm.Cond.fieldLinkNest "CardRights" (194 : Nat) "CardRights$Door" "open" "Z" "CardRights") ∈ lw_tbl := List.mem_of_getElem? (i := 504) (by decide +kernel)
theorem w_462 : (Jvm.Cond.fieldLink "CardRights$Door" (16 : Nat) "CardRights$Door" "asItIsSince" "I") ∈ lw_tbl := List.mem_of_getElem? (i := 505) (by decide +kernel)
theorem w_463 : (Jvm.Cond.fieldLinkNest "CardRights" (191 : Nat) "CardRights$Door" "asItIsSince" "I" "CardRights") ∈ lw_tbl := List.mem_of_getElem? (i := 506) (by decide +kernel)
theorem w_464 : (Jvm.Cond.fieldLink "CardRights$Door" (20 : Nat) "CardRights$Door" "airlocks" "I") ∈ lw_tbl := List.mem_of_getElem? (i := 507) (by decide +kernel)
theorem w_465 : (Jvm.Cond.fieldLink "CardRights$Door" (23 : Nat) "CardRights$Door" "isOff" "Z") ∈ lw_tbl := List.mem_of_getElem? (i := 508) (by decide +kernel)
theorem w_466 : (Jvm.Cond.fieldLinkNest "CardRights" (197 : Nat) "CardRights$Door" "isOff" "Z" "CardRights") ∈ lw_tbl := List.mem_of_getElem? (i := 509) (by decide +kernel)
theorem w_467 : (Jvm.Cond.fieldLink "CardRights$Door" (29 : Nat) "CardRights$Door" "knewWhenCutOff" "LCardRights$Knowledge;") ∈ lw_tbl := List.mem_of_getElem? (i := 510) (by decide +kernel)
theorem w_468 : (Jvm.Cond.fieldLinkNest "CardRights" (200 : Nat) "CardRights$Door" "knewWhenCutOff" "LCardRights$Knowledge;" "CardRights") ∈ lw_tbl := List.mem_of_getElem? (i := 511) (by decide +kernel)
theorem w_469 : (Jvm.Cond.fieldLink "CardRights$Door" (36 : Nat) "CardRights$Door" "rows" "Ljava/util/List;") ∈ lw_tbl := List.mem_of_getElem? (i := 512) (by decide +kernel)
theorem w_470 : (Jvm.Cond.fieldLinkNest "CardRights" (283 : Nat) "CardRights$Door" "rows" "Ljava/util/List;" "CardRights") ∈ lw_tbl := List.mem_of_getElem? (i := 513) (by decide +kernel)
theorem w_471 : (Jvm.Cond.laysFinal "CardRights$Door" "CardRights$Door" "number" "I") ∈ lw_tbl := List.mem_of_getElem? (i := 514) (by decide +kernel)
theorem w_473 : (Jvm.Cond.laysFinal "CardRights$Door" "CardRights$Door" "roomA" "LCardRights$Room;") ∈ lw_tbl := List.mem_of_getElem? (i := 516) (by decide +kernel)
theorem w_475 : (Jvm.Cond.laysFinal "CardRights$Door" "CardRights$Door" "roomB" "LCardRights$Room;") ∈ lw_tbl := List.mem_of_getElem? (i := 518) (by decide +kernel)
theorem w_477 : (Jvm.Cond.lays "CardRights$Door" "CardRights$Door" "wantsTwo" "Z") ∈ lw_tbl := List.mem_of_getElem? (i := 520) (by decide +kernel)
theorem w_479 : (Jvm.Cond.lays "CardRights$Door" "CardRights$Door" "open" "Z") ∈ lw_tbl := List.mem_of_getElem? (i := 522) (by decide +kernel)
theorem w_481 : (Jvm.Cond.lays "CardRights$Door" "CardRights$Door" "asItIsSince" "I") ∈ lw_tbl := List.mem_of_getElem? (i := 524) (by decide +kernel)
theorem w_483 : (Jvm.Cond.lays "CardRights$Door" "CardRights$Door" "airlocks" "I") ∈ lw_tbl := List.mem_of_getElem? (i := 526) (by decide +kernel)
theorem w_485 : (Jvm.Cond.lays "CardRights$Door" "CardRights$Door" "isOff" "Z") ∈ lw_tbl := List.mem_of_getElem? (i := 528) (by decide +kernel)
theorem w_487 : (Jvm.Cond.laysFinal "CardRights$Door" "CardRights$Door" "knewWhenCutOff" "LCardRights$Knowledge;") ∈ lw_tbl := List.mem_of_getElem? (i := 530) (by decide +kernel)
theorem w_489 : (Jvm.Cond.laysFinal "CardRights$Door" "CardRights$Door" "rows" "Ljava/util/List;") ∈ lw_tbl := List.mem_of_getElem? (i := 532) (by decide +kernel)
theorem w_498 : (Jvm.Cond.code ({ cls := "CardRights", name := "person", desc := "(I)I" } : Jvm.MethodName) prog_1_method_4_code (2 : Nat) (Option.some FieldType.int)) ∈ lw_tbl := List.mem_of_getElem? (i := 541) (by decide +kernel)
theorem w_499 : (Jvm.Cond.methodLink "CardRights" (106 : Nat) ({ cls := "CardRights", name := "checkGroup", desc := "(I)V" } : Jvm.MethodName)) ∈ lw_tbl := List.mem_of_getElem? (i := 542) (by decide +kernel)
theorem w_500 : (Jvm.Cond.static ({ cls := "CardRights", name := "checkGroup", desc := "(I)V" } : Jvm.MethodName)) ∈ lw_tbl := List.mem_of_getElem? (i := 543) (by decide +kernel)
theorem w_501 : (Jvm.Cond.code ({ cls := "CardRights", name := "checkGroup", desc := "(I)V" } : Jvm.MethodName) prog_1_method_24_code (1 : Nat) (Option.none : Option FieldType)) ∈ lw_tbl := List.mem_of_getElem? (i := 544) (by decide +kernel)
theorem w_502 : (Jvm.Cond.stringRef "CardRights" (274 : Nat) "there is no such group") ∈ lw_tbl := List.mem_of_getElem? (i := 545) (by decide +kernel)
theorem w_503 : (Jvm.Cond.stringRef "CardRights" (109 : Nat) "there are as many persons as may be") ∈ lw_tbl := List.mem_of_getElem? (i := 546) (by decide +kernel)
theorem w_505 : (Jvm.Cond.methodLink "CardRights" (111 : Nat) ({ cls := "java/util/List", name := "isEmpty", desc := "()Z" } : Jvm.MethodName)) ∈ lw_tbl := List.mem_of_getElem? (i := 548) (by decide +kernel)
theorem w_506 : (Jvm.Cond.interfaceMethod "java/util/List" "java/util/List" "isEmpty" "()Z") ∈ lw_tbl := List.mem_of_getElem? (i := 549) (by decide +kernel)
theorem w_507 : (Jvm.Cond.declares ({ cls := "java/util/List", name := "isEmpty", desc := "()Z" } : Jvm.MethodName)) ∈ lw_tbl := List.mem_of_getElem? (i := 550) (by decide +kernel)
theorem w_508 : (Jvm.Cond.selects "java/util/ArrayList" ({ cls := "java/util/List", name := "isEmpty", desc := "()Z" } : Jvm.MethodName) ({ cls := "java/util/ArrayList", name := "isEmpty", desc := "()Z" } : Jvm.MethodName)) ∈ lw_tbl := List.mem_of_getElem? (i := 551) (by decide +kernel)
theorem w_509 : (Jvm.Cond.unhidden "java/util/ArrayList" "isEmpty" "()Z") ∈ lw_tbl := List.mem_of_getElem? (i := 552) (by decide +kernel)
theorem w_510 : (Jvm.Cond.instanceMethod ({ cls := "java/util/ArrayList", name := "isEmpty", desc := "()Z" } : Jvm.MethodName)) ∈ lw_tbl := List.mem_of_getElem? (i := 553) (by decide +kernel)
theorem w_511 : (Jvm.Cond.publicMethod ({ cls := "java/util/ArrayList", name := "isEmpty", desc := "()Z" } : Jvm.MethodName)) ∈ lw_tbl := List.mem_of_getElem? (i := 554) (by decide +kernel)
theorem w_512 : (Jvm.Cond.code ({ cls := "java/util/ArrayList", name := "isEmpty", desc := "()Z" } : Jvm.MethodName) prog_27_method_9_code (1 : Nat) (Option.some FieldType.boolean)) ∈ lw_tbl := List.mem_of_getElem? (i := 555) (by decide +kernel)
theorem w_513 : (Jvm.Cond.stringRef "CardRights" (115 : Nat) "there is no room to be in") ∈ lw_tbl := List.mem_of_getElem? (i := 556) (by decide +kernel)
theorem w_514 : (Jvm.Cond.classLink "CardRights" (117 : Nat) "CardRights$Person") ∈ lw_tbl := List.mem_of_getElem? (i := 557) (by decide +kernel)
theorem w_515 : (Jvm.Cond.instantiable "CardRights$Person" (2 : Nat)) ∈ lw_tbl := List.mem_of_getElem? (i := 558) (by decide +kernel)
theorem w_516 : (Jvm.Cond.methodLinkNest "CardRights" (123 : Nat) ({ cls := "CardRights$Person", name := "<init>", desc := "(ILCardRights$Room;)V" } : Jvm.MethodName) "CardRights") ∈ lw_tbl := List.mem_of_getElem? (i := 559) (by decide +kernel)
theorem w_517 : (Jvm.Cond.instanceMethod ({ cls := "CardRights$Person", name := "<init>", desc := "(ILCardRights$Room;)V" } : Jvm.MethodName)) ∈ lw_tbl := List.mem_of_getElem? (i := 560) (by decide +kernel)
theorem w_518 : (Jvm.Cond.code ({ cls := "CardRights$Person", name := "<init>", desc := "(ILCardRights$Room;)V" } : Jvm.MethodName) prog_7_method_1_code (3 : Nat) (Option.none : Option FieldType)) ∈ lw_tbl := List.mem_of_getElem? (i := 561) (by decide +kernel)
theorem w_519 : (Jvm.Cond.methodLink "CardRights$Person" (1 : Nat) ({ cls := "java/lang/Object", name := "<init>", desc := "()V" } : Jvm.MethodName)) ∈ lw_tbl := List.mem_of_getElem? (i := 562) (by decide +kernel)
theorem w_520 : (Jvm.Cond.fieldLink "CardRights$Person" (7 : Nat) "CardRights$Person" "group" "I") ∈ lw_tbl := List.mem_of_getElem? (i := 563) (by decide +kernel)
theorem w_521 : (Jvm.Cond.fieldLinkNest "CardRights" (312 : Nat) "CardRights$Person" "group" "I" "CardRights") ∈ lw_tbl := List.mem_of_getElem? (i := 564) (by decide +kernel)
theorem w_522 : (Jvm.Cond.fieldLink "CardRights$Person" (13 : Nat) "CardRights$Person" "in" "LCardRights$Room;") ∈ lw_tbl := List.mem_of_getElem? (i := 565) (by decide +kernel)
theorem w_523 : (Jvm.Cond.fieldLinkNest "CardRights" (233 : Nat) "CardRights$Person" "in" "LCardRights$Room;" "CardRights") ∈ lw_tbl := List.mem_of_getElem? (i := 566) (by decide +kernel)
theorem w_524 : (Jvm.Cond.laysFinal "CardRights$Person" "CardRights$Person" "group" "I") ∈ lw_tbl := List.mem_of_getElem? (i := 567) (by decide +kernel)
theorem w_526 : (Jvm.Cond.lays "CardRights$Person" "CardRights$Person" "in" "LCardRights$Room;") ∈ lw_tbl := List.mem_of_getElem? (i := 569) (by decide +kernel)
theorem w_535 : (Jvm.Cond.code ({ cls := "CardRights", name := "card", desc := "(II)I" } : Jvm.MethodName) prog_1_method_5_code (5 : Nat) (Option.some FieldType.int)) ∈ lw_tbl := List.mem_of_getElem? (i := 578) (by decide +kernel)
theorem w_536 : (Jvm.Cond.methodLink "CardRights" (126 : Nat) ({ cls := "CardRights", name := "personNumbered", desc := "(I)LCardRights$Person;" } : Jvm.MethodName)) ∈ lw_tbl := List.mem_of_getElem? (i := 579) (by decide +kernel)
theorem w_538 : (Jvm.Cond.instanceMethod ({ cls := "CardRights", name := "personNumbered", desc := "(I)LCardRights$Person;" } : Jvm.MethodName)) ∈ lw_tbl := List.mem_of_getElem? (i := 581) (by decide +kernel)
theorem w_539 : (Jvm.Cond.code ({ cls := "CardRights", name := "personNumbered", desc := "(I)LCardRights$Person;" } : Jvm.MethodName) prog_1_method_32_code (2 : Nat) (Option.some (FieldType.object "CardRights$Person"))) ∈ lw_tbl := List.mem_of_getElem? (i := 582) (by decide +kernel)
theorem w_540 : (Jvm.Cond.stringRef "CardRights" (300 : Nat) "there is no such person") ∈ lw_tbl := List.mem_of_getElem? (i := 583) (by decide +kernel)
theorem w_541 : (Jvm.Cond.methodLink "CardRights" (130 : Nat) ({ cls := "CardRights", name := "checkMinute", desc := "(I)V" } : Jvm.MethodName)) ∈ lw_tbl := List.mem_of_getElem? (i := 584) (by decide +kernel)
theorem w_542 : (Jvm.Cond.static ({ cls := "CardRights", name := "checkMinute", desc := "(I)V" } : Jvm.MethodName)) ∈ lw_tbl := List.mem_of_getElem? (i := 585) (by decide +kernel)
theorem w_543 : (Jvm.Cond.code ({ cls := "CardRights", name := "checkMinute", desc := "(I)V" } : Jvm.MethodName) prog_1_method_26_code (1 : Nat) (Option.none : Option FieldType)) ∈ lw_tbl := List.mem_of_getElem? (i := 586) (by decide +kernel)
theorem w_544 : (Jvm.Cond.constant "CardRights" (278 : Nat) (1000000 : Int32)) ∈ lw_tbl := List.mem_of_getElem? (i := 587) (by decide +kernel)
theorem w_545 : (Jvm.Cond.stringRef "CardRights" (279 : Nat) "there is no such minute") ∈ lw_tbl := List.mem_of_getElem? (i := 588) (by decide +kernel)
theorem w_546 : (Jvm.Cond.stringRef "CardRights" (133 : Nat) "there are as many cards as may be") ∈ lw_tbl := List.mem_of_getElem? (i := 589) (by decide +kernel)
theorem w_547 : (Jvm.Cond.classLink "CardRights" (135 : Nat) "CardRights$Card") ∈ lw_tbl := List.mem_of_getElem? (i := 590) (by decide +kernel)
theorem w_548 : (Jvm.Cond.instantiable "CardRights$Card" (3 : Nat)) ∈ lw_tbl := List.mem_of_getElem? (i := 591) (by decide +kernel)
theorem w_549 : (Jvm.Cond.methodLinkNest "CardRights" (137 : Nat) ({ cls := "CardRights$Card", name := "<init>", desc := "(ILCardRights$Person;I)V" } : Jvm.MethodName) "CardRights") ∈ lw_tbl := List.mem_of_getElem? (i := 592) (by decide +kernel)
theorem w_550 : (Jvm.Cond.instanceMethod ({ cls := "CardRights$Card", name := "<init>", desc := "(ILCardRights$Person;I)V" } : Jvm.MethodName)) ∈ lw_tbl := List.mem_of_getElem? (i := 593) (by decide +kernel)
theorem w_551 : (Jvm.Cond.code ({ cls := "CardRights$Card", name := "<init>", desc := "(ILCardRights$Person;I)V" } : Jvm.MethodName) prog_2_method_1_code (4 : Nat) (Option.none : Option FieldType)) ∈ lw_tbl := List.mem_of_getElem? (i := 594) (by decide +kernel)
theorem w_552 : (Jvm.Cond.methodLink "CardRights$Card" (1 : Nat) ({ cls := "java/lang/Object", name := "<init>", desc := "()V" } : Jvm.MethodName)) ∈ lw_tbl := List.mem_of_getElem? (i := 595) (by decide +kernel)
theorem w_553 : (Jvm.Cond.fieldLink "CardRights$Card" (7 : Nat) "CardRights$Card" "number" "I") ∈ lw_tbl := List.mem_of_getElem? (i := 596) (by decide +kernel)
theorem w_554 : (Jvm.Cond.fieldLinkNest "CardRights" (143 : Nat) "CardRights$Card" "number" "I" "CardRights") ∈ lw_tbl := List.mem_of_getElem? (i := 597) (by decide +kernel)
theorem w_555 : (Jvm.Cond.fieldLink "CardRights$Card" (13 : Nat) "CardRights$Card" "owner" "LCardRights$Person;") ∈ lw_tbl := List.mem_of_getElem? (i := 598) (by decide +kernel)
theorem w_556 : (Jvm.Cond.fieldLinkNest "CardRights" (229 : Nat) "CardRights$Card" "owner" "LCardRights$Person;" "CardRights") ∈ lw_tbl := List.mem_of_getElem? (i := 599) (by decide +kernel)
theorem w_557 : (Jvm.Cond.fieldLink "CardRights$Card" (17 : Nat) "CardRights$Card" "until" "I") ∈ lw_tbl := List.mem_of_getElem? (i := 600) (by decide +kernel)
theorem w_558 : (Jvm.Cond.fieldLinkNest "CardRights" (326 : Nat) "CardRights$Card" "until" "I" "CardRights") ∈ lw_tbl := List.mem_of_getElem? (i := 601) (by decide +kernel)
theorem w_559 : (Jvm.Cond.laysFinal "CardRights$Card" "CardRights$Card" "number" "I") ∈ lw_tbl := List.mem_of_getElem? (i := 602) (by decide +kernel)
theorem w_561 : (Jvm.Cond.laysFinal "CardRights$Card" "CardRights$Card" "owner" "LCardRights$Person;") ∈ lw_tbl := List.mem_of_getElem? (i := 604) (by decide +kernel)
theorem w_563 : (Jvm.Cond.laysFinal "CardRights$Card" "CardRights$Card" "until" "I") ∈ lw_tbl := List.mem_of_getElem? (i := 606) (by decide +kernel)
theorem w_572 : (Jvm.Cond.code ({ cls := "CardRights", name := "right", desc := "(IIIII)I" } : Jvm.MethodName) prog_1_method_6_code (6 : Nat) (Option.some FieldType.int)) ∈ lw_tbl := List.mem_of_getElem? (i := 615) (by decide +kernel)
theorem w_573 : (Jvm.Cond.methodLink "CardRights" (144 : Nat) ({ cls := "CardRights", name := "checkTimeOfDay", desc := "(I)V" } : Jvm.MethodName)) ∈ lw_tbl := List.mem_of_getElem? (i := 616) (by decide +kernel)
theorem w_574 : (Jvm.Cond.static ({ cls := "CardRights", name := "checkTimeOfDay", desc := "(I)V" } : Jvm.MethodName)) ∈ lw_tbl := List.mem_of_getElem? (i := 617) (by decide +kernel)
theorem w_575 : (Jvm.Cond.code ({ cls := "CardRights", name := "checkTimeOfDay", desc := "(I)V" } : Jvm.MethodName) prog_1_method_25_code (1 : Nat) (Option.none : Option FieldType)) ∈ lw_tbl := List.mem_of_getElem? (i := 618) (by decide +kernel)
theorem w_576 : (Jvm.Cond.stringRef "CardRights" (276 : Nat) "a day has no such minute") ∈ lw_tbl := List.mem_of_getElem? (i := 619) (by decide +kernel)
theorem w_577 : (Jvm.Cond.stringRef "CardRights" (147 : Nat) "there are as many rights as may be") ∈ lw_tbl := List.mem_of_getElem? (i := 620) (by decide +kernel)
theorem w_578 : (Jvm.Cond.methodLinkNest "CardRights" (151 : Nat) ({ cls := "CardRights$Right", name := "<init>", desc := "(IIIII)V" } : Jvm.MethodName) "CardRights") ∈ lw_tbl := List.mem_of_getElem? (i := 621) (by decide +kernel)
theorem w_579 : (Jvm.Cond.instanceMethod ({ cls := "CardRights$Right", name := "<init>", desc := "(IIIII)V" } : Jvm.MethodName)) ∈ lw_tbl := List.mem_of_getElem? (i := 622) (by decide +kernel)
theorem w_580 : (Jvm.Cond.code ({ cls := "CardRights$Right", name := "<init>", desc := "(IIIII)V" } : Jvm.MethodName) prog_8_method_1_code (6 : Nat) (Option.none : Option FieldType)) ∈ lw_tbl := List.mem_of_getElem? (i := 623) (by decide +kernel)
theorem w_581 : (Jvm.Cond.methodLink "CardRights$Right" (1 : Nat) ({ cls := "java/lang/Object", name := "<init>", desc := "()V" } : Jvm.MethodName)) ∈ lw_tbl := List.mem_of_getElem? (i := 624) (by decide +kernel)
theorem w_582 : (Jvm.Cond.fieldLink "CardRights$Right" (7 : Nat) "CardRights$Right" "group" "I") ∈ lw_tbl := List.mem_of_getElem? (i := 625) (by decide +kernel)
theorem w_583 : (Jvm.Cond.fieldLink "CardRights$Right" (13 : Nat) "CardRights$Right" "zone" "I") ∈ lw_tbl := List.mem_of_getElem? (i := 626) (by decide +kernel)
theorem w_584 : (Jvm.Cond.fieldLink "CardRights$Right" (16 : Nat) "CardRights$Right" "from" "I") ∈ lw_tbl := List.mem_of_getElem? (i := 627) (by decide +kernel)
theorem w_585 : (Jvm.Cond.fieldLink "CardRights$Right" (19 : Nat) "CardRights$Right" "to" "I") ∈ lw_tbl := List.mem_of_getElem? (i := 628) (by decide +kernel)
theorem w_586 : (Jvm.Cond.fieldLink "CardRights$Right" (22 : Nat) "CardRights$Right" "since" "I") ∈ lw_tbl := List.mem_of_getElem? (i := 629) (by decide +kernel)
theorem w_587 : (Jvm.Cond.fieldLinkNest "CardRights" (337 : Nat) "CardRights$Right" "since" "I" "CardRights") ∈ lw_tbl := List.mem_of_getElem? (i := 630) (by decide +kernel)
theorem w_588 : (Jvm.Cond.laysFinal "CardRights$Right" "CardRights$Right" "group" "I") ∈ lw_tbl := List.mem_of_getElem? (i := 631) (by decide +kernel)
theorem w_590 : (Jvm.Cond.laysFinal "CardRights$Right" "CardRights$Right" "zone" "I") ∈ lw_tbl := List.mem_of_getElem? (i := 633) (by decide +kernel)
theorem w_592 : (Jvm.Cond.laysFinal "CardRights$Right" "CardRights$Right" "from" "I") ∈ lw_tbl := List.mem_of_getElem? (i := 635) (by decide +kernel)
theorem w_594 : (Jvm.Cond.laysFinal "CardRights$Right" "CardRights$Right" "to" "I") ∈ lw_tbl := List.mem_of_getElem? (i := 637) (by decide +kernel)
theorem w_596 : (Jvm.Cond.laysFinal "CardRights$Right" "CardRights$Right" "since" "I") ∈ lw_tbl := List.mem_of_getElem? (i := 639) (by decide +kernel)
theorem w_605 : (Jvm.Cond.code ({ cls := "CardRights", name := "end", desc := "(II)I" } : Jvm.MethodName) prog_1_method_7_code (4 : Nat) (Option.some FieldType.int)) ∈ lw_tbl := List.mem_of_getElem? (i := 648) (by decide +kernel)
theorem w_606 : (Jvm.Cond.stringRef "CardRights" (157 : Nat) "there is no such right") ∈ lw_tbl := List.mem_of_getElem? (i := 649) (by decide +kernel)
theorem w_613 : (Jvm.Cond.code ({ cls := "CardRights", name := "lost", desc := "(II)I" } : Jvm.MethodName) prog_1_method_8_code (5 : Nat) (Option.some FieldType.int)) ∈ lw_tbl := List.mem_of_getElem? (i := 656) (by decide +kernel)
theorem w_614 : (Jvm.Cond.methodLink "CardRights" (163 : Nat) ({ cls := "CardRights", name := "cardNumbered", desc := "(I)LCardRights$Card;" } : Jvm.MethodName)) ∈ lw_tbl := List.mem_of_getElem? (i := 657) (by decide +kernel)
theorem w_616 : (Jvm.Cond.instanceMethod ({ cls := "CardRights", name := "cardNumbered", desc := "(I)LCardRights$Card;" } : Jvm.MethodName)) ∈ lw_tbl := List.mem_of_getElem? (i := 659) (by decide +kernel)
theorem w_617 : (Jvm.Cond.code ({ cls := "CardRights", name := "cardNumbered", desc := "(I)LCardRights$Card;" } : Jvm.MethodName) prog_1_method_33_code (2 : Nat) (Option.some (FieldType.object "CardRights$Card"))) ∈ lw_tbl := List.mem_of_getElem? (i := 660) (by decide +kernel)
theorem w_618 : (Jvm.Cond.stringRef "CardRights" (302 : Nat) "there is no such card") ∈ lw_tbl := List.mem_of_getElem? (i := 661) (by decide +kernel)
theorem w_625 : (Jvm.Cond.code ({ cls := "CardRights", name := "two", desc := "(IZ)Z" } : Jvm.MethodName) prog_1_method_9_code (5 : Nat) (Option.some FieldType.boolean)) ∈ lw_tbl := List.mem_of_getElem? (i := 668) (by decide +kernel)
theorem w_626 : (Jvm.Cond.methodLink "CardRights" (170 : Nat) ({ cls := "CardRights", name := "doorNumbered", desc := "(I)LCardRights$Door;" } : Jvm.MethodName)) ∈ lw_tbl := List.mem_of_getElem? (i := 669) (by decide +kernel)
theorem w_628 : (Jvm.Cond.instanceMethod ({ cls := "CardRights", name := "doorNumbered", desc := "(I)LCardRights$Door;" } : Jvm.MethodName)) ∈ lw_tbl := List.mem_of_getElem? (i := 671) (by decide +kernel)
theorem w_629 : (Jvm.Cond.code ({ cls := "CardRights", name := "doorNumbered", desc := "(I)LCardRights$Door;" } : Jvm.MethodName) prog_1_method_31_code (2 : Nat) (Option.some (FieldType.object "CardRights$Door"))) ∈ lw_tbl := List.mem_of_getElem? (i := 672) (by decide +kernel)
theorem w_630 : (Jvm.Cond.stringRef "CardRights" (298 : Nat) "there is no such door") ∈ lw_tbl := List.mem_of_getElem? (i := 673) (by decide +kernel)
theorem w_637 : (Jvm.Cond.code ({ cls := "CardRights", name := "airlock", desc := "(IIZ)Z" } : Jvm.MethodName) prog_1_method_10_code (7 : Nat) (Option.some FieldType.boolean)) ∈ lw_tbl := List.mem_of_getElem? (i := 680) (by decide +kernel)
theorem w_638 : (Jvm.Cond.stringRef "CardRights" (178 : Nat) "an airlock has two doors") ∈ lw_tbl := List.mem_of_getElem? (i := 681) (by decide +kernel)
theorem w_639 : (Jvm.Cond.methodLinkNest "CardRights" (180 : Nat) ({ cls := "CardRights$Door", name := "isAirlockWith", desc := "(LCardRights$Door;)Z" } : Jvm.MethodName) "CardRights") ∈ lw_tbl := List.mem_of_getElem? (i := 682) (by decide +kernel)
theorem w_641 : (Jvm.Cond.instanceMethod ({ cls := "CardRights$Door", name := "isAirlockWith", desc := "(LCardRights$Door;)Z" } : Jvm.MethodName)) ∈ lw_tbl := List.mem_of_getElem? (i := 684) (by decide +kernel)
theorem w_642 : (Jvm.Cond.code ({ cls := "CardRights$Door", name := "isAirlockWith", desc := "(LCardRights$Door;)Z" } : Jvm.MethodName) prog_3_method_3_code (2 : Nat) (Option.some FieldType.boolean)) ∈ lw_tbl := List.mem_of_getElem? (i := 685) (by decide +kernel)
theorem w_643 : (Jvm.Cond.methodLinkNest "CardRights" (184 : Nat) ({ cls := "CardRights$Door", name := "setAirlockWith", desc := "(LCardRights$Door;Z)V" } : Jvm.MethodName) "CardRights") ∈ lw_tbl := List.mem_of_getElem? (i := 686) (by decide +kernel)
theorem w_645 : (Jvm.Cond.instanceMethod ({ cls := "CardRights$Door", name := "setAirlockWith", desc := "(LCardRights$Door;Z)V" } : Jvm.MethodName)) ∈ lw_tbl := List.mem_of_getElem? (i := 688) (by decide +kernel)
theorem w_646 : (Jvm.Cond.code ({ cls := "CardRights$Door", name := "setAirlockWith", desc := "(LCardRights$Door;Z)V" } : Jvm.MethodName) prog_3_method_4_code (3 : Nat) (Option.none : Option FieldType)) ∈ lw_tbl := List.mem_of_getElem? (i := 689) (by decide +kernel)
theorem w_653 : (Jvm.Cond.code ({ cls := "CardRights", name := "state", desc := "(IZI)I" } : Jvm.MethodName) prog_1_method_11_code (6 : Nat) (Option.some FieldType.int)) ∈ lw_tbl := List.mem_of_getElem? (i := 696) (by decide +kernel)
theorem w_654 : (Jvm.Cond.methodLink "CardRights" (188 : Nat) ({ cls := "CardRights", name := "checkMinuteFromNow", desc := "(I)V" } : Jvm.MethodName)) ∈ lw_tbl := List.mem_of_getElem? (i := 697) (by decide +kernel)
theorem w_656 : (Jvm.Cond.instanceMethod ({ cls := "CardRights", name := "checkMinuteFromNow", desc := "(I)V" } : Jvm.MethodName)) ∈ lw_tbl := List.mem_of_getElem? (i := 699) (by decide +kernel)
theorem w_657 : (Jvm.Cond.code ({ cls := "CardRights", name := "checkMinuteFromNow", desc := "(I)V" } : Jvm.MethodName) prog_1_method_27_code (2 : Nat) (Option.none : Option FieldType)) ∈ lw_tbl := List.mem_of_getElem? (i := 700) (by decide +kernel)
theorem w_658 : (Jvm.Cond.stringRef "CardRights" (281 : Nat) "the minute is over") ∈ lw_tbl := List.mem_of_getElem? (i := 701) (by decide +kernel)
theorem w_665 : (Jvm.Cond.code ({ cls := "CardRights", name := "off", desc := "(IZ)I" } : Jvm.MethodName) prog_1_method_12_code (4 : Nat) (Option.some FieldType.int)) ∈ lw_tbl := List.mem_of_getElem? (i := 708) (by decide +kernel)
theorem w_666 : (Jvm.Cond.methodLinkNest "CardRights" (203 : Nat) ({ cls := "CardRights$Knowledge", name := "copyFrom", desc := "(LCardRights$Knowledge;)V" } : Jvm.MethodName) "CardRights") ∈ lw_tbl := List.mem_of_getElem? (i := 709) (by decide +kernel)
theorem w_668 : (Jvm.Cond.instanceMethod ({ cls := "CardRights$Knowledge", name := "copyFrom", desc := "(LCardRights$Knowledge;)V" } : Jvm.MethodName)) ∈ lw_tbl := List.mem_of_getElem? (i := 711) (by decide +kernel)
theorem w_669 : (Jvm.Cond.code ({ cls := "CardRights$Knowledge", name := "copyFrom", desc := "(LCardRights$Knowledge;)V" } : Jvm.MethodName) prog_5_method_2_code (2 : Nat) (Option.none : Option FieldType)) ∈ lw_tbl := List.mem_of_getElem? (i := 712) (by decide +kernel)
theorem w_670 : (Jvm.Cond.methodLink "CardRights$Knowledge" (31 : Nat) ({ cls := "java/lang/System", name := "arraycopy", desc := "(Ljava/lang/Object;ILjava/lang/Object;II)V" } : Jvm.MethodName)) ∈ lw_tbl := List.mem_of_getElem? (i := 713) (by decide +kernel)
theorem w_671 : (Jvm.Cond.methodLink "CardRights" (207 : Nat) ({ cls := "CardRights", name := "goThroughRows", desc := "(LCardRights$Door;)I" } : Jvm.MethodName)) ∈ lw_tbl := List.mem_of_getElem? (i := 714) (by decide +kernel)
theorem w_673 : (Jvm.Cond.instanceMethod ({ cls := "CardRights", name := "goThroughRows", desc := "(LCardRights$Door;)I" } : Jvm.MethodName)) ∈ lw_tbl := List.mem_of_getElem? (i := 716) (by decide +kernel)
theorem w_674 : (Jvm.Cond.code ({ cls := "CardRights", name := "goThroughRows", desc := "(LCardRights$Door;)I" } : Jvm.MethodName) prog_1_method_39_code (6 : Nat) (Option.some FieldType.int)) ∈ lw_tbl := List.mem_of_getElem? (i := 717) (by decide +kernel)
theorem w_675 : (Jvm.Cond.classLink "CardRights" (347 : Nat) "CardRights$Row") ∈ lw_tbl := List.mem_of_getElem? (i := 718) (by decide +kernel)
theorem w_676 : (Jvm.Cond.methodLink "CardRights" (359 : Nat) ({ cls := "CardRights", name := "refusalLookingBack", desc := "(LCardRights$Row;)I" } : Jvm.MethodName)) ∈ lw_tbl := List.mem_of_getElem? (i := 719) (by decide +kernel)
theorem w_678 : (Jvm.Cond.instanceMethod ({ cls := "CardRights", name := "refusalLookingBack", desc := "(LCardRights$Row;)I" } : Jvm.MethodName)) ∈ lw_tbl := List.mem_of_getElem? (i := 721) (by decide +kernel)
theorem w_679 : (Jvm.Cond.code ({ cls := "CardRights", name := "refusalLookingBack", desc := "(LCardRights$Row;)I" } : Jvm.MethodName) prog_1_method_40_code (3 : Nat) (Option.some FieldType.int)) ∈ lw_tbl := List.mem_of_getElem? (i := 722) (by decide +kernel)
theorem w_680 : (Jvm.Cond.methodLink "CardRights" (304 : Nat) ({ cls := "CardRights", name := "refusalOfCard", desc := "(LCardRights$Knowledge;LCardRights$Card;I)I" } : Jvm.MethodName)) ∈ lw_tbl := List.mem_of_getElem? (i := 723) (by decide +kernel)
theorem w_681 : (Jvm.Cond.static ({ cls := "CardRights", name := "refusalOfCard", desc := "(LCardRights$Knowledge;LCardRights$Card;I)I" } : Jvm.MethodName)) ∈ lw_tbl := List.mem_of_getElem? (i := 724) (by decide +kernel)
theorem w_682 : (Jvm.Cond.code ({ cls := "CardRights", name := "refusalOfCard", desc := "(LCardRights$Knowledge;LCardRights$Card;I)I" } : Jvm.MethodName) prog_1_method_35_code (3 : Nat) (Option.some FieldType.int)) ∈ lw_tbl := List.mem_of_getElem? (i := 725) (by decide +kernel)
theorem w_683 : (Jvm.Cond.methodLinkNest "CardRights" (322 : Nat) ({ cls := "CardRights$Knowledge", name := "knowsCard", desc := "(I)Z" } : Jvm.MethodName) "CardRights") ∈ lw_tbl := List.mem_of_getElem? (i := 726) (by decide +kernel)
theorem w_685 : (Jvm.Cond.instanceMethod ({ cls := "CardRights$Knowledge", name := "knowsCard", desc := "(I)Z" } : Jvm.MethodName)) ∈ lw_tbl := List.mem_of_getElem? (i := 728) (by decide +kernel)
theorem w_686 : (Jvm.Cond.code ({ cls := "CardRights$Knowledge", name := "knowsCard", desc := "(I)Z" } : Jvm.MethodName) prog_5_method_3_code (2 : Nat) (Option.some FieldType.boolean)) ∈ lw_tbl := List.mem_of_getElem? (i := 729) (by decide +kernel)
theorem w_687 : (Jvm.Cond.methodLinkNest "CardRights" (329 : Nat) ({ cls := "CardRights$Knowledge", name := "isLost", desc := "(II)Z" } : Jvm.MethodName) "CardRights") ∈ lw_tbl := List.mem_of_getElem? (i := 730) (by decide +kernel)
theorem w_689 : (Jvm.Cond.instanceMethod ({ cls := "CardRights$Knowledge", name := "isLost", desc := "(II)Z" } : Jvm.MethodName)) ∈ lw_tbl := List.mem_of_getElem? (i := 732) (by decide +kernel)
theorem w_690 : (Jvm.Cond.code ({ cls := "CardRights$Knowledge", name := "isLost", desc := "(II)Z" } : Jvm.MethodName) prog_5_method_4_code (3 : Nat) (Option.some FieldType.boolean)) ∈ lw_tbl := List.mem_of_getElem? (i := 733) (by decide +kernel)
theorem w_691 : (Jvm.Cond.methodLink "CardRights$Knowledge" (37 : Nat) ({ cls := "CardRights$Knowledge", name := "isFrom", desc := "(II)Z" } : Jvm.MethodName)) ∈ lw_tbl := List.mem_of_getElem? (i := 734) (by decide +kernel)
theorem w_692 : (Jvm.Cond.static ({ cls := "CardRights$Knowledge", name := "isFrom", desc := "(II)Z" } : Jvm.MethodName)) ∈ lw_tbl := List.mem_of_getElem? (i := 735) (by decide +kernel)
theorem w_693 : (Jvm.Cond.code ({ cls := "CardRights$Knowledge", name := "isFrom", desc := "(II)Z" } : Jvm.MethodName) prog_5_method_6_code (2 : Nat) (Option.some FieldType.boolean)) ∈ lw_tbl := List.mem_of_getElem? (i := 736) (by decide +kernel)
theorem w_694 : (Jvm.Cond.methodLink "CardRights" (315 : Nat) ({ cls := "CardRights", name := "hasRight", desc := "(LCardRights$Knowledge;III)Z" } : Jvm.MethodName)) ∈ lw_tbl := List.mem_of_getElem? (i := 737) (by decide +kernel)
theorem w_696 : (Jvm.Cond.instanceMethod ({ cls := "CardRights", name := "hasRight", desc := "(LCardRights$Knowledge;III)Z" } : Jvm.MethodName)) ∈ lw_tbl := List.mem_of_getElem? (i := 739) (by decide +kernel)
theorem w_697 : (Jvm.Cond.code ({ cls := "CardRights", name := "hasRight", desc := "(LCardRights$Knowledge;III)Z" } : Jvm.MethodName) prog_1_method_36_code (7 : Nat) (Option.some FieldType.boolean)) ∈ lw_tbl := List.mem_of_getElem? (i := 740) (by decide +kernel)
theorem w_698 : (Jvm.Cond.methodLinkNest "CardRights" (340 : Nat) ({ cls := "CardRights$Knowledge", name := "isEnded", desc := "(II)Z" } : Jvm.MethodName) "CardRights") ∈ lw_tbl := List.mem_of_getElem? (i := 741) (by decide +kernel)
theorem w_700 : (Jvm.Cond.instanceMethod ({ cls := "CardRights$Knowledge", name := "isEnded", desc := "(II)Z" } : Jvm.MethodName)) ∈ lw_tbl := List.mem_of_getElem? (i := 743) (by decide +kernel)
theorem w_701 : (Jvm.Cond.code ({ cls := "CardRights$Knowledge", name := "isEnded", desc := "(II)Z" } : Jvm.MethodName) prog_5_method_5_code (3 : Nat) (Option.some FieldType.boolean)) ∈ lw_tbl := List.mem_of_getElem? (i := 744) (by decide +kernel)
theorem w_702 : (Jvm.Cond.methodLinkNest "CardRights" (366 : Nat) ({ cls := "CardRights$Findings", name := "add", desc := "(IIII)V" } : Jvm.MethodName) "CardRights") ∈ lw_tbl := List.mem_of_getElem? (i := 745) (by decide +kernel)
theorem w_704 : (Jvm.Cond.instanceMethod ({ cls := "CardRights$Findings", name := "add", desc := "(IIII)V" } : Jvm.MethodName)) ∈ lw_tbl := List.mem_of_getElem? (i := 747) (by decide +kernel)
theorem w_705 : (Jvm.Cond.code ({ cls := "CardRights$Findings", name := "add", desc := "(IIII)V" } : Jvm.MethodName) prog_4_method_3_code (6 : Nat) (Option.none : Option FieldType)) ∈ lw_tbl := List.mem_of_getElem? (i := 748) (by decide +kernel)
theorem w_707 : (Jvm.Cond.methodLink "CardRights" (369 : Nat) ({ cls := "java/util/List", name := "clear", desc := "()V" } : Jvm.MethodName)) ∈ lw_tbl := List.mem_of_getElem? (i := 750) (by decide +kernel)
theorem w_708 : (Jvm.Cond.interfaceMethod "java/util/List" "java/util/List" "clear" "()V") ∈ lw_tbl := List.mem_of_getElem? (i := 751) (by decide +kernel)
theorem w_709 : (Jvm.Cond.declares ({ cls := "java/util/List", name := "clear", desc := "()V" } : Jvm.MethodName)) ∈ lw_tbl := List.mem_of_getElem? (i := 752) (by decide +kernel)
theorem w_710 : (Jvm.Cond.selects "java/util/ArrayList" ({ cls := "java/util/List", name := "clear", desc := "()V" } : Jvm.MethodName) ({ cls := "java/util/ArrayList", name := "clear", desc := "()V" } : Jvm.MethodName)) ∈ lw_tbl := List.mem_of_getElem? (i := 753) (by decide +kernel)
theorem w_711 : (Jvm.Cond.unhidden "java/util/ArrayList" "clear" "()V") ∈ lw_tbl := List.mem_of_getElem? (i := 754) (by decide +kernel)
theorem w_712 : (Jvm.Cond.instanceMethod ({ cls := "java/util/ArrayList", name := "clear", desc := "()V" } : Jvm.MethodName)) ∈ lw_tbl := List.mem_of_getElem? (i := 755) (by decide +kernel)
theorem w_713 : (Jvm.Cond.publicMethod ({ cls := "java/util/ArrayList", name := "clear", desc := "()V" } : Jvm.MethodName)) ∈ lw_tbl := List.mem_of_getElem? (i := 756) (by decide +kernel)
theorem w_714 : (Jvm.Cond.code ({ cls := "java/util/ArrayList", name := "clear", desc := "()V" } : Jvm.MethodName) prog_27_method_40_code (4 : Nat) (Option.none : Option FieldType)) ∈ lw_tbl := List.mem_of_getElem? (i := 757) (by decide +kernel)
theorem w_721 : (Jvm.Cond.code ({ cls := "CardRights", name := "asks", desc := "(IIII)I" } : Jvm.MethodName) prog_1_method_13_code (9 : Nat) (Option.some FieldType.int)) ∈ lw_tbl := List.mem_of_getElem? (i := 764) (by decide +kernel)
theorem w_722 : (Jvm.Cond.methodLink "CardRights" (211 : Nat) ({ cls := "CardRights", name := "roomOfDoor", desc := "(LCardRights$Door;I)LCardRights$Room;" } : Jvm.MethodName)) ∈ lw_tbl := List.mem_of_getElem? (i := 765) (by decide +kernel)
theorem w_723 : (Jvm.Cond.static ({ cls := "CardRights", name := "roomOfDoor", desc := "(LCardRights$Door;I)LCardRights$Room;" } : Jvm.MethodName)) ∈ lw_tbl := List.mem_of_getElem? (i := 766) (by decide +kernel)
theorem w_724 : (Jvm.Cond.code ({ cls := "CardRights", name := "roomOfDoor", desc := "(LCardRights$Door;I)LCardRights$Room;" } : Jvm.MethodName) prog_1_method_30_code (2 : Nat) (Option.some (FieldType.object "CardRights$Room"))) ∈ lw_tbl := List.mem_of_getElem? (i := 767) (by decide +kernel)
theorem w_725 : (Jvm.Cond.stringRef "CardRights" (296 : Nat) "the room is none of the door's") ∈ lw_tbl := List.mem_of_getElem? (i := 768) (by decide +kernel)
theorem w_726 : (Jvm.Cond.methodLink "CardRights" (215 : Nat) ({ cls := "CardRights", name := "checkSpaceForRows", desc := "(LCardRights$Door;I)V" } : Jvm.MethodName)) ∈ lw_tbl := List.mem_of_getElem? (i := 769) (by decide +kernel)
theorem w_727 : (Jvm.Cond.static ({ cls := "CardRights", name := "checkSpaceForRows", desc := "(LCardRights$Door;I)V" } : Jvm.MethodName)) ∈ lw_tbl := List.mem_of_getElem? (i := 770) (by decide +kernel)
theorem w_728 : (Jvm.Cond.code ({ cls := "CardRights", name := "checkSpaceForRows", desc := "(LCardRights$Door;I)V" } : Jvm.MethodName) prog_1_method_28_code (2 : Nat) (Option.none : Option FieldType)) ∈ lw_tbl := List.mem_of_getElem? (i := 771) (by decide +kernel)
theorem w_729 : (Jvm.Cond.stringRef "CardRights" (286 : Nat) "the door can keep no more rows") ∈ lw_tbl := List.mem_of_getElem? (i := 772) (by decide +kernel)
theorem w_730 : (Jvm.Cond.methodLink "CardRights" (219 : Nat) ({ cls := "CardRights", name := "refusalByItself", desc := "(LCardRights$Card;LCardRights$Door;LCardRights$Room;I)I" } : Jvm.MethodName)) ∈ lw_tbl := List.mem_of_getElem? (i := 773) (by decide +kernel)
theorem w_732 : (Jvm.Cond.instanceMethod ({ cls := "CardRights", name := "refusalByItself", desc := "(LCardRights$Card;LCardRights$Door;LCardRights$Room;I)I" } : Jvm.MethodName)) ∈ lw_tbl := List.mem_of_getElem? (i := 775) (by decide +kernel)
theorem w_733 : (Jvm.Cond.code ({ cls := "CardRights", name := "refusalByItself", desc := "(LCardRights$Card;LCardRights$Door;LCardRights$Room;I)I" } : Jvm.MethodName) prog_1_method_34_code (7 : Nat) (Option.some FieldType.int)) ∈ lw_tbl := List.mem_of_getElem? (i := 776) (by decide +kernel)
theorem w_734 : (Jvm.Cond.methodLinkNest "CardRights" (308 : Nat) ({ cls := "CardRights$Door", name := "otherRoom", desc := "(LCardRights$Room;)LCardRights$Room;" } : Jvm.MethodName) "CardRights") ∈ lw_tbl := List.mem_of_getElem? (i := 777) (by decide +kernel)
theorem w_736 : (Jvm.Cond.instanceMethod ({ cls := "CardRights$Door", name := "otherRoom", desc := "(LCardRights$Room;)LCardRights$Room;" } : Jvm.MethodName)) ∈ lw_tbl := List.mem_of_getElem? (i := 779) (by decide +kernel)
theorem w_737 : (Jvm.Cond.code ({ cls := "CardRights$Door", name := "otherRoom", desc := "(LCardRights$Room;)LCardRights$Room;" } : Jvm.MethodName) prog_3_method_2_code (2 : Nat) (Option.some (FieldType.object "CardRights$Room"))) ∈ lw_tbl := List.mem_of_getElem? (i := 780) (by decide +kernel)
theorem w_738 : (Jvm.Cond.methodLink "CardRights" (319 : Nat) ({ cls := "CardRights", name := "isAirlockOpen", desc := "(LCardRights$Door;)Z" } : Jvm.MethodName)) ∈ lw_tbl := List.mem_of_getElem? (i := 781) (by decide +kernel)
theorem w_740 : (Jvm.Cond.instanceMethod ({ cls := "CardRights", name := "isAirlockOpen", desc := "(LCardRights$Door;)Z" } : Jvm.MethodName)) ∈ lw_tbl := List.mem_of_getElem? (i := 783) (by decide +kernel)
theorem w_741 : (Jvm.Cond.code ({ cls := "CardRights", name := "isAirlockOpen", desc := "(LCardRights$Door;)Z" } : Jvm.MethodName) prog_1_method_37_code (4 : Nat) (Option.some FieldType.boolean)) ∈ lw_tbl := List.mem_of_getElem? (i := 784) (by decide +kernel)
theorem w_742 : (Jvm.Cond.methodLink "CardRights" (223 : Nat) ({ cls := "CardRights", name := "letIn", desc := "(LCardRights$Card;LCardRights$Door;LCardRights$Room;I)V" } : Jvm.MethodName)) ∈ lw_tbl := List.mem_of_getElem? (i := 785) (by decide +kernel)
theorem w_744 : (Jvm.Cond.instanceMethod ({ cls := "CardRights", name := "letIn", desc := "(LCardRights$Card;LCardRights$Door;LCardRights$Room;I)V" } : Jvm.MethodName)) ∈ lw_tbl := List.mem_of_getElem? (i := 787) (by decide +kernel)
theorem w_745 : (Jvm.Cond.code ({ cls := "CardRights", name := "letIn", desc := "(LCardRights$Card;LCardRights$Door;LCardRights$Room;I)V" } : Jvm.MethodName) prog_1_method_38_code (5 : Nat) (Option.none : Option FieldType)) ∈ lw_tbl := List.mem_of_getElem? (i := 788) (by decide +kernel)
theorem w_746 : (Jvm.Cond.methodLinkNest "CardRights" (343 : Nat) ({ cls := "CardRights$Uses", name := "mark", desc := "(III)V" } : Jvm.MethodName) "CardRights") ∈ lw_tbl := List.mem_of_getElem? (i := 789) (by decide +kernel)
theorem w_748 : (Jvm.Cond.instanceMethod ({ cls := "CardRights$Uses", name := "mark", desc := "(III)V" } : Jvm.MethodName)) ∈ lw_tbl := List.mem_of_getElem? (i := 791) (by decide +kernel)
theorem w_749 : (Jvm.Cond.code ({ cls := "CardRights$Uses", name := "mark", desc := "(III)V" } : Jvm.MethodName) prog_11_method_2_code (7 : Nat) (Option.none : Option FieldType)) ∈ lw_tbl := List.mem_of_getElem? (i := 792) (by decide +kernel)
theorem w_750 : (Jvm.Cond.instantiable "CardRights$Row" (3 : Nat)) ∈ lw_tbl := List.mem_of_getElem? (i := 793) (by decide +kernel)
theorem w_751 : (Jvm.Cond.methodLinkNest "CardRights" (349 : Nat) ({ cls := "CardRights$Row", name := "<init>", desc := "(LCardRights$Card;LCardRights$Room;I)V" } : Jvm.MethodName) "CardRights") ∈ lw_tbl := List.mem_of_getElem? (i := 794) (by decide +kernel)
theorem w_752 : (Jvm.Cond.instanceMethod ({ cls := "CardRights$Row", name := "<init>", desc := "(LCardRights$Card;LCardRights$Room;I)V" } : Jvm.MethodName)) ∈ lw_tbl := List.mem_of_getElem? (i := 795) (by decide +kernel)
theorem w_753 : (Jvm.Cond.code ({ cls := "CardRights$Row", name := "<init>", desc := "(LCardRights$Card;LCardRights$Room;I)V" } : Jvm.MethodName) prog_10_method_1_code (4 : Nat) (Option.none : Option FieldType)) ∈ lw_tbl := List.mem_of_getElem? (i := 796) (by decide +kernel)
theorem w_754 : (Jvm.Cond.methodLink "CardRights$Row" (1 : Nat) ({ cls := "java/lang/Object", name := "<init>", desc := "()V" } : Jvm.MethodName)) ∈ lw_tbl := List.mem_of_getElem? (i := 797) (by decide +kernel)
theorem w_755 : (Jvm.Cond.fieldLink "CardRights$Row" (7 : Nat) "CardRights$Row" "card" "LCardRights$Card;") ∈ lw_tbl := List.mem_of_getElem? (i := 798) (by decide +kernel)
theorem w_756 : (Jvm.Cond.fieldLinkNest "CardRights" (352 : Nat) "CardRights$Row" "card" "LCardRights$Card;" "CardRights") ∈ lw_tbl := List.mem_of_getElem? (i := 799) (by decide +kernel)
theorem w_757 : (Jvm.Cond.fieldLink "CardRights$Row" (13 : Nat) "CardRights$Row" "room" "LCardRights$Room;") ∈ lw_tbl := List.mem_of_getElem? (i := 800) (by decide +kernel)
theorem w_758 : (Jvm.Cond.fieldLinkNest "CardRights" (356 : Nat) "CardRights$Row" "room" "LCardRights$Room;" "CardRights") ∈ lw_tbl := List.mem_of_getElem? (i := 801) (by decide +kernel)
theorem w_759 : (Jvm.Cond.fieldLink "CardRights$Row" (17 : Nat) "CardRights$Row" "minute" "I") ∈ lw_tbl := List.mem_of_getElem? (i := 802) (by decide +kernel)
theorem w_760 : (Jvm.Cond.fieldLinkNest "CardRights" (363 : Nat) "CardRights$Row" "minute" "I" "CardRights") ∈ lw_tbl := List.mem_of_getElem? (i := 803) (by decide +kernel)
theorem w_761 : (Jvm.Cond.laysFinal "CardRights$Row" "CardRights$Row" "card" "LCardRights$Card;") ∈ lw_tbl := List.mem_of_getElem? (i := 804) (by decide +kernel)
theorem w_763 : (Jvm.Cond.laysFinal "CardRights$Row" "CardRights$Row" "room" "LCardRights$Room;") ∈ lw_tbl := List.mem_of_getElem? (i := 806) (by decide +kernel)
theorem w_765 : (Jvm.Cond.laysFinal "CardRights$Row" "CardRights$Row" "minute" "I") ∈ lw_tbl := List.mem_of_getElem? (i := 808) (by decide +kernel)
theorem w_774 : (Jvm.Cond.code ({ cls := "CardRights", name := "both", desc := "(IIIII)I" } : Jvm.MethodName) prog_1_method_14_code (11 : Nat) (Option.some FieldType.int)) ∈ lw_tbl := List.mem_of_getElem? (i := 817) (by decide +kernel)
theorem w_775 : (Jvm.Cond.stringRef "CardRights" (227 : Nat) "one card is not two") ∈ lw_tbl := List.mem_of_getElem? (i := 818) (by decide +kernel)
theorem w_782 : (Jvm.Cond.code ({ cls := "CardRights", name := "where", desc := "(I)I" } : Jvm.MethodName) prog_1_method_15_code (2 : Nat) (Option.some FieldType.int)) ∈ lw_tbl := List.mem_of_getElem? (i := 825) (by decide +kernel)
theorem w_789 : (Jvm.Cond.code ({ cls := "CardRights", name := "inside", desc := "(I)I" } : Jvm.MethodName) prog_1_method_16_code (4 : Nat) (Option.some FieldType.int)) ∈ lw_tbl := List.mem_of_getElem? (i := 832) (by decide +kernel)
theorem w_796 : (Jvm.Cond.code ({ cls := "CardRights", name := "muster", desc := "(II)I" } : Jvm.MethodName) prog_1_method_17_code (5 : Nat) (Option.some FieldType.int)) ∈ lw_tbl := List.mem_of_getElem? (i := 839) (by decide +kernel)
theorem w_797 : (Jvm.Cond.stringRef "CardRights" (240 : Nat) "a place is not below 0") ∈ lw_tbl := List.mem_of_getElem? (i := 840) (by decide +kernel)
theorem w_804 : (Jvm.Cond.code ({ cls := "CardRights", name := "found", desc := "(II)I" } : Jvm.MethodName) prog_1_method_19_code (3 : Nat) (Option.some FieldType.int)) ∈ lw_tbl := List.mem_of_getElem? (i := 847) (by decide +kernel)
theorem w_805 : (Jvm.Cond.methodLinkNest "CardRights" (245 : Nat) ({ cls := "CardRights$Findings", name := "keptCount", desc := "()I" } : Jvm.MethodName) "CardRights") ∈ lw_tbl := List.mem_of_getElem? (i := 848) (by decide +kernel)
theorem w_807 : (Jvm.Cond.instanceMethod ({ cls := "CardRights$Findings", name := "keptCount", desc := "()I" } : Jvm.MethodName)) ∈ lw_tbl := List.mem_of_getElem? (i := 850) (by decide +kernel)
theorem w_808 : (Jvm.Cond.code ({ cls := "CardRights$Findings", name := "keptCount", desc := "()I" } : Jvm.MethodName) prog_4_method_2_code (1 : Nat) (Option.some FieldType.int)) ∈ lw_tbl := List.mem_of_getElem? (i := 851) (by decide +kernel)
theorem w_809 : (Jvm.Cond.methodLink "CardRights$Findings" (19 : Nat) ({ cls := "java/lang/Math", name := "min", desc := "(II)I" } : Jvm.MethodName)) ∈ lw_tbl := List.mem_of_getElem? (i := 852) (by decide +kernel)
theorem w_810 : (Jvm.Cond.stringRef "CardRights" (248 : Nat) "no such row is kept") ∈ lw_tbl := List.mem_of_getElem? (i := 853) (by decide +kernel)
theorem w_811 : (Jvm.Cond.stringRef "CardRights" (250 : Nat) "a row has no such part") ∈ lw_tbl := List.mem_of_getElem? (i := 854) (by decide +kernel)
theorem w_816 : (Jvm.Cond.code ({ cls := "CardRightsModel", name := "<init>", desc := "()V" } : Jvm.MethodName) prog_13_method_1_code (1 : Nat) (Option.none : Option FieldType)) ∈ lw_tbl := List.mem_of_getElem? (i := 859) (by decide +kernel)
end
section
theorem w_817 : (Jvm.Cond.methodLink "CardRightsModel" (1 : Nat) ({ cls := "java/lang/Object", name := "<init>", desc := "()V" } : Jvm.MethodName)) ∈ lw_tbl := List.mem_of_getElem? (i := 860) (by decide +kernel)
theorem w_818 : (Jvm.Cond.constant "CardRightsModel" (98 : Nat) (65536 : Int32)) ∈ lw_tbl := List.mem_of_getElem? (i := 861) (by decide +kernel)
theorem w_819 : (Jvm.Cond.fieldLink "CardRightsModel" (105 : Nat) "CardRightsModel" "code" "I") ∈ lw_tbl := List.mem_of_getElem? (i := 862) (by decide +kernel)
theorem w_820 : (Jvm.Cond.fieldLink "CardRightsModel" (148 : Nat) "CardRightsModel" "now" "I") ∈ lw_tbl := List.mem_of_getElem? (i := 863) (by decide +kernel)
theorem w_821 : (Jvm.Cond.fieldLink "CardRightsModel" (117 : Nat) "CardRightsModel" "rooms" "I") ∈ lw_tbl := List.mem_of_getElem? (i := 864) (by decide +kernel)
theorem w_822 : (Jvm.Cond.fieldLink "CardRightsModel" (7 : Nat) "CardRightsModel" "zone" "[I") ∈ lw_tbl := List.mem_of_getElem? (i := 865) (by decide +kernel)
theorem w_823 : (Jvm.Cond.fieldLink "CardRightsModel" (124 : Nat) "CardRightsModel" "doors" "I") ∈ lw_tbl := List.mem_of_getElem? (i := 866) (by decide +kernel)
theorem w_824 : (Jvm.Cond.fieldLink "CardRightsModel" (13 : Nat) "CardRightsModel" "roomA" "[I") ∈ lw_tbl := List.mem_of_getElem? (i := 867) (by decide +kernel)
theorem w_825 : (Jvm.Cond.fieldLink "CardRightsModel" (16 : Nat) "CardRightsModel" "roomB" "[I") ∈ lw_tbl := List.mem_of_getElem? (i := 868) (by decide +kernel)
theorem w_826 : (Jvm.Cond.fieldLink "CardRightsModel" (19 : Nat) "CardRightsModel" "two" "[Z") ∈ lw_tbl := List.mem_of_getElem? (i := 869) (by decide +kernel)
theorem w_827 : (Jvm.Cond.fieldLink "CardRightsModel" (23 : Nat) "CardRightsModel" "open" "[Z") ∈ lw_tbl := List.mem_of_getElem? (i := 870) (by decide +kernel)
theorem w_828 : (Jvm.Cond.fieldLink "CardRightsModel" (26 : Nat) "CardRightsModel" "changed" "[I") ∈ lw_tbl := List.mem_of_getElem? (i := 871) (by decide +kernel)
theorem w_829 : (Jvm.Cond.fieldLink "CardRightsModel" (29 : Nat) "CardRightsModel" "known" "[I") ∈ lw_tbl := List.mem_of_getElem? (i := 872) (by decide +kernel)
theorem w_830 : (Jvm.Cond.fieldLink "CardRightsModel" (32 : Nat) "CardRightsModel" "airlock" "[Z") ∈ lw_tbl := List.mem_of_getElem? (i := 873) (by decide +kernel)
theorem w_831 : (Jvm.Cond.fieldLink "CardRightsModel" (35 : Nat) "CardRightsModel" "rows" "[I") ∈ lw_tbl := List.mem_of_getElem? (i := 874) (by decide +kernel)
theorem w_832 : (Jvm.Cond.fieldLink "CardRightsModel" (38 : Nat) "CardRightsModel" "rowCard" "[I") ∈ lw_tbl := List.mem_of_getElem? (i := 875) (by decide +kernel)
theorem w_833 : (Jvm.Cond.fieldLink "CardRightsModel" (41 : Nat) "CardRightsModel" "rowRoom" "[I") ∈ lw_tbl := List.mem_of_getElem? (i := 876) (by decide +kernel)
theorem w_834 : (Jvm.Cond.fieldLink "CardRightsModel" (44 : Nat) "CardRightsModel" "rowMinute" "[I") ∈ lw_tbl := List.mem_of_getElem? (i := 877) (by decide +kernel)
theorem w_835 : (Jvm.Cond.fieldLink "CardRightsModel" (127 : Nat) "CardRightsModel" "persons" "I") ∈ lw_tbl := List.mem_of_getElem? (i := 878) (by decide +kernel)
theorem w_836 : (Jvm.Cond.fieldLink "CardRightsModel" (47 : Nat) "CardRightsModel" "group" "[I") ∈ lw_tbl := List.mem_of_getElem? (i := 879) (by decide +kernel)
theorem w_837 : (Jvm.Cond.fieldLink "CardRightsModel" (50 : Nat) "CardRightsModel" "place" "[I") ∈ lw_tbl := List.mem_of_getElem? (i := 880) (by decide +kernel)
theorem w_838 : (Jvm.Cond.fieldLink "CardRightsModel" (134 : Nat) "CardRightsModel" "cards" "I") ∈ lw_tbl := List.mem_of_getElem? (i := 881) (by decide +kernel)
theorem w_839 : (Jvm.Cond.fieldLink "CardRightsModel" (53 : Nat) "CardRightsModel" "person" "[I") ∈ lw_tbl := List.mem_of_getElem? (i := 882) (by decide +kernel)
theorem w_840 : (Jvm.Cond.fieldLink "CardRightsModel" (56 : Nat) "CardRightsModel" "until" "[I") ∈ lw_tbl := List.mem_of_getElem? (i := 883) (by decide +kernel)
theorem w_841 : (Jvm.Cond.fieldLink "CardRightsModel" (141 : Nat) "CardRightsModel" "rights" "I") ∈ lw_tbl := List.mem_of_getElem? (i := 884) (by decide +kernel)
theorem w_842 : (Jvm.Cond.fieldLink "CardRightsModel" (59 : Nat) "CardRightsModel" "rightGroup" "[I") ∈ lw_tbl := List.mem_of_getElem? (i := 885) (by decide +kernel)
theorem w_843 : (Jvm.Cond.fieldLink "CardRightsModel" (62 : Nat) "CardRightsModel" "rightZone" "[I") ∈ lw_tbl := List.mem_of_getElem? (i := 886) (by decide +kernel)
theorem w_844 : (Jvm.Cond.fieldLink "CardRightsModel" (65 : Nat) "CardRightsModel" "rightFrom" "[I") ∈ lw_tbl := List.mem_of_getElem? (i := 887) (by decide +kernel)
theorem w_845 : (Jvm.Cond.fieldLink "CardRightsModel" (68 : Nat) "CardRightsModel" "rightTo" "[I") ∈ lw_tbl := List.mem_of_getElem? (i := 888) (by decide +kernel)
theorem w_846 : (Jvm.Cond.fieldLink "CardRightsModel" (71 : Nat) "CardRightsModel" "rightSince" "[I") ∈ lw_tbl := List.mem_of_getElem? (i := 889) (by decide +kernel)
theorem w_847 : (Jvm.Cond.fieldLink "CardRightsModel" (110 : Nat) "CardRightsModel" "tellings" "I") ∈ lw_tbl := List.mem_of_getElem? (i := 890) (by decide +kernel)
theorem w_848 : (Jvm.Cond.fieldLink "CardRightsModel" (74 : Nat) "CardRightsModel" "tellKind" "[I") ∈ lw_tbl := List.mem_of_getElem? (i := 891) (by decide +kernel)
theorem w_849 : (Jvm.Cond.fieldLink "CardRightsModel" (77 : Nat) "CardRightsModel" "tellWhich" "[I") ∈ lw_tbl := List.mem_of_getElem? (i := 892) (by decide +kernel)
theorem w_850 : (Jvm.Cond.fieldLink "CardRightsModel" (80 : Nat) "CardRightsModel" "tellMinute" "[I") ∈ lw_tbl := List.mem_of_getElem? (i := 893) (by decide +kernel)
theorem w_851 : (Jvm.Cond.fieldLink "CardRightsModel" (162 : Nat) "CardRightsModel" "uses" "I") ∈ lw_tbl := List.mem_of_getElem? (i := 894) (by decide +kernel)
theorem w_852 : (Jvm.Cond.fieldLink "CardRightsModel" (83 : Nat) "CardRightsModel" "use" "[I") ∈ lw_tbl := List.mem_of_getElem? (i := 895) (by decide +kernel)
theorem w_853 : (Jvm.Cond.fieldLink "CardRightsModel" (176 : Nat) "CardRightsModel" "against" "I") ∈ lw_tbl := List.mem_of_getElem? (i := 896) (by decide +kernel)
theorem w_854 : (Jvm.Cond.fieldLink "CardRightsModel" (86 : Nat) "CardRightsModel" "foundDoor" "[I") ∈ lw_tbl := List.mem_of_getElem? (i := 897) (by decide +kernel)
theorem w_855 : (Jvm.Cond.fieldLink "CardRightsModel" (89 : Nat) "CardRightsModel" "foundCard" "[I") ∈ lw_tbl := List.mem_of_getElem? (i := 898) (by decide +kernel)
theorem w_856 : (Jvm.Cond.fieldLink "CardRightsModel" (92 : Nat) "CardRightsModel" "foundMinute" "[I") ∈ lw_tbl := List.mem_of_getElem? (i := 899) (by decide +kernel)
theorem w_857 : (Jvm.Cond.fieldLink "CardRightsModel" (95 : Nat) "CardRightsModel" "foundWhy" "[I") ∈ lw_tbl := List.mem_of_getElem? (i := 900) (by decide +kernel)
theorem w_858 : (Jvm.Cond.fieldLink "CardRightsModel" (99 : Nat) "CardRightsModel" "wanted" "[Z") ∈ lw_tbl := List.mem_of_getElem? (i := 901) (by decide +kernel)
theorem w_859 : (Jvm.Cond.fieldLink "CardRightsModel" (102 : Nat) "CardRightsModel" "want" "[I") ∈ lw_tbl := List.mem_of_getElem? (i := 902) (by decide +kernel)
theorem w_860 : (Jvm.Cond.lays "CardRightsModel" "CardRightsModel" "code" "I") ∈ lw_tbl := List.mem_of_getElem? (i := 903) (by decide +kernel)
theorem w_862 : (Jvm.Cond.lays "CardRightsModel" "CardRightsModel" "now" "I") ∈ lw_tbl := List.mem_of_getElem? (i := 905) (by decide +kernel)
theorem w_864 : (Jvm.Cond.lays "CardRightsModel" "CardRightsModel" "rooms" "I") ∈ lw_tbl := List.mem_of_getElem? (i := 907) (by decide +kernel)
theorem w_866 : (Jvm.Cond.laysFinal "CardRightsModel" "CardRightsModel" "zone" "[I") ∈ lw_tbl := List.mem_of_getElem? (i := 909) (by decide +kernel)
theorem w_868 : (Jvm.Cond.lays "CardRightsModel" "CardRightsModel" "doors" "I") ∈ lw_tbl := List.mem_of_getElem? (i := 911) (by decide +kernel)
theorem w_870 : (Jvm.Cond.laysFinal "CardRightsModel" "CardRightsModel" "roomA" "[I") ∈ lw_tbl := List.mem_of_getElem? (i := 913) (by decide +kernel)
theorem w_872 : (Jvm.Cond.laysFinal "CardRightsModel" "CardRightsModel" "roomB" "[I") ∈ lw_tbl := List.mem_of_getElem? (i := 915) (by decide +kernel)
theorem w_874 : (Jvm.Cond.laysFinal "CardRightsModel" "CardRightsModel" "two" "[Z") ∈ lw_tbl := List.mem_of_getElem? (i := 917) (by decide +kernel)
theorem w_876 : (Jvm.Cond.laysFinal "CardRightsModel" "CardRightsModel" "open" "[Z") ∈ lw_tbl := List.mem_of_getElem? (i := 919) (by decide +kernel)
theorem w_878 : (Jvm.Cond.laysFinal "CardRightsModel" "CardRightsModel" "changed" "[I") ∈ lw_tbl := List.mem_of_getElem? (i := 921) (by decide +kernel)
theorem w_880 : (Jvm.Cond.laysFinal "CardRightsModel" "CardRightsModel" "known" "[I") ∈ lw_tbl := List.mem_of_getElem? (i := 923) (by decide +kernel)
theorem w_882 : (Jvm.Cond.laysFinal "CardRightsModel" "CardRightsModel" "airlock" "[Z") ∈ lw_tbl := List.mem_of_getElem? (i := 925) (by decide +kernel)
theorem w_884 : (Jvm.Cond.laysFinal "CardRightsModel" "CardRightsModel" "rows" "[I") ∈ lw_tbl := List.mem_of_getElem? (i := 927) (by decide +kernel)
theorem w_886 : (Jvm.Cond.laysFinal "CardRightsModel" "CardRightsModel" "rowCard" "[I") ∈ lw_tbl := List.mem_of_getElem? (i := 929) (by decide +kernel)
theorem w_888 : (Jvm.Cond.laysFinal "CardRightsModel" "CardRightsModel" "rowRoom" "[I") ∈ lw_tbl := List.mem_of_getElem? (i := 931) (by decide +kernel)
theorem w_890 : (Jvm.Cond.laysFinal "CardRightsModel" "CardRightsModel" "rowMinute" "[I") ∈ lw_tbl := List.mem_of_getElem? (i := 933) (by decide +kernel)
theorem w_892 : (Jvm.Cond.lays "CardRightsModel" "CardRightsModel" "persons" "I") ∈ lw_tbl := List.mem_of_getElem? (i := 935) (by decide +kernel)
theorem w_894 : (Jvm.Cond.laysFinal "CardRightsModel" "CardRightsModel" "group" "[I") ∈ lw_tbl := List.mem_of_getElem? (i := 937) (by decide +kernel)
theorem w_896 : (Jvm.Cond.laysFinal "CardRightsModel" "CardRightsModel" "place" "[I") ∈ lw_tbl := List.mem_of_getElem? (i := 939) (by decide +kernel)
theorem w_898 : (Jvm.Cond.lays "CardRightsModel" "CardRightsModel" "cards" "I") ∈ lw_tbl := List.mem_of_getElem? (i := 941) (by decide +kernel)
theorem w_900 : (Jvm.Cond.laysFinal "CardRightsModel" "CardRightsModel" "person" "[I") ∈ lw_tbl := List.mem_of_getElem? (i := 943) (by decide +kernel)
theorem w_902 : (Jvm.Cond.laysFinal "CardRightsModel" "CardRightsModel" "until" "[I") ∈ lw_tbl := List.mem_of_getElem? (i := 945) (by decide +kernel)
theorem w_904 : (Jvm.Cond.lays "CardRightsModel" "CardRightsModel" "rights" "I") ∈ lw_tbl := List.mem_of_getElem? (i := 947) (by decide +kernel)
theorem w_906 : (Jvm.Cond.laysFinal "CardRightsModel" "CardRightsModel" "rightGroup" "[I") ∈ lw_tbl := List.mem_of_getElem? (i := 949) (by decide +kernel)
theorem w_908 : (Jvm.Cond.laysFinal "CardRightsModel" "CardRightsModel" "rightZone" "[I") ∈ lw_tbl := List.mem_of_getElem? (i := 951) (by decide +kernel)
theorem w_910 : (Jvm.Cond.laysFinal "CardRightsModel" "CardRightsModel" "rightFrom" "[I") ∈ lw_tbl := List.mem_of_getElem? (i := 953) (by decide +kernel)
theorem w_912 : (Jvm.Cond.laysFinal "CardRightsModel" "CardRightsModel" "rightTo" "[I") ∈ lw_tbl := List.mem_of_getElem? (i := 955) (by decide +kernel)
theorem w_914 : (Jvm.Cond.laysFinal "CardRightsModel" "CardRightsModel" "rightSince" "[I") ∈ lw_tbl := List.mem_of_getElem? (i := 957) (by decide +kernel)
theorem w_916 : (Jvm.Cond.lays "CardRightsModel" "CardRightsModel" "tellings" "I") ∈ lw_tbl := List.mem_of_getElem? (i := 959) (by decide +kernel)
theorem w_918 : (Jvm.Cond.laysFinal "CardRightsModel" "CardRightsModel" "tellKind" "[I") ∈ lw_tbl := List.mem_of_getElem? (i := 961) (by decide +kernel)
theorem w_920 : (Jvm.Cond.laysFinal "CardRightsModel" "CardRightsModel" "tellWhich" "[I") ∈ lw_tbl := List.mem_of_getElem? (i := 963) (by decide +kernel)
theorem w_922 : (Jvm.Cond.laysFinal "CardRightsModel" "CardRightsModel" "tellMinute" "[I") ∈ lw_tbl := List.mem_of_getElem? (i := 965) (by decide +kernel)
theorem w_924 : (Jvm.Cond.lays "CardRightsModel" "CardRightsModel" "uses" "I") ∈ lw_tbl := List.mem_of_getElem? (i := 967) (by decide +kernel)
theorem w_926 : (Jvm.Cond.laysFinal "CardRightsModel" "CardRightsModel" "use" "[I") ∈ lw_tbl := List.mem_of_getElem? (i := 969) (by decide +kernel)
theorem w_928 : (Jvm.Cond.lays "CardRightsModel" "CardRightsModel" "against" "I") ∈ lw_tbl := List.mem_of_getElem? (i := 971) (by decide +kernel)
theorem w_930 : (Jvm.Cond.laysFinal "CardRightsModel" "CardRightsModel" "foundDoor" "[I") ∈ lw_tbl := List.mem_of_getElem? (i := 973) (by decide +kernel)
theorem w_932 : (Jvm.Cond.laysFinal "CardRightsModel" "CardRightsModel" "foundCard" "[I") ∈ lw_tbl := List.mem_of_getElem? (i := 975) (by decide +kernel)
theorem w_934 : (Jvm.Cond.laysFinal "CardRightsModel" "CardRightsModel" "foundMinute" "[I") ∈ lw_tbl := List.mem_of_getElem? (i := 977) (by decide +kernel)
theorem w_936 : (Jvm.Cond.laysFinal "CardRightsModel" "CardRightsModel" "foundWhy" "[I") ∈ lw_tbl := List.mem_of_getElem? (i := 979) (by decide +kernel)
theorem w_938 : (Jvm.Cond.laysFinal "CardRightsModel" "CardRightsModel" "wanted" "[Z") ∈ lw_tbl := List.mem_of_getElem? (i := 981) (by decide +kernel)
theorem w_940 : (Jvm.Cond.laysFinal "CardRightsModel" "CardRightsModel" "want" "[I") ∈ lw_tbl := List.mem_of_getElem? (i := 983) (by decide +kernel)
theorem w_943 : (Jvm.Cond.arrayClass FieldType.boolean) ∈ lw_tbl := List.mem_of_getElem? (i := 986) (by decide +kernel)
theorem w_947 : (Jvm.Cond.code ({ cls := "CardRightsModel", name := "thrown", desc := "()I" } : Jvm.MethodName) prog_13_method_2_code (1 : Nat) (Option.some FieldType.int)) ∈ lw_tbl := List.mem_of_getElem? (i := 990) (by decide +kernel)
theorem w_951 : (Jvm.Cond.code ({ cls := "CardRightsModel", name := "room", desc := "(I)I" } : Jvm.MethodName) prog_13_method_8_code (2 : Nat) (Option.some FieldType.int)) ∈ lw_tbl := List.mem_of_getElem? (i := 994) (by decide +kernel)
theorem w_952 : (Jvm.Cond.methodLink "CardRightsModel" (113 : Nat) ({ cls := "CardRightsModel", name := "isIn", desc := "(II)Z" } : Jvm.MethodName)) ∈ lw_tbl := List.mem_of_getElem? (i := 995) (by decide +kernel)
theorem w_953 : (Jvm.Cond.static ({ cls := "CardRightsModel", name := "isIn", desc := "(II)Z" } : Jvm.MethodName)) ∈ lw_tbl := List.mem_of_getElem? (i := 996) (by decide +kernel)
theorem w_954 : (Jvm.Cond.code ({ cls := "CardRightsModel", name := "isIn", desc := "(II)Z" } : Jvm.MethodName) prog_13_method_4_code (2 : Nat) (Option.some FieldType.boolean)) ∈ lw_tbl := List.mem_of_getElem? (i := 997) (by decide +kernel)
theorem w_955 : (Jvm.Cond.methodLink "CardRightsModel" (120 : Nat) ({ cls := "CardRightsModel", name := "goes", desc := "(ZZ)Z" } : Jvm.MethodName)) ∈ lw_tbl := List.mem_of_getElem? (i := 998) (by decide +kernel)
theorem w_957 : (Jvm.Cond.instanceMethod ({ cls := "CardRightsModel", name := "goes", desc := "(ZZ)Z" } : Jvm.MethodName)) ∈ lw_tbl := List.mem_of_getElem? (i := 1000) (by decide +kernel)
theorem w_958 : (Jvm.Cond.code ({ cls := "CardRightsModel", name := "goes", desc := "(ZZ)Z" } : Jvm.MethodName) prog_13_method_3_code (3 : Nat) (Option.some FieldType.boolean)) ∈ lw_tbl := List.mem_of_getElem? (i := 1001) (by decide +kernel)
theorem w_962 : (Jvm.Cond.code ({ cls := "CardRightsModel", name := "door", desc := "(II)I" } : Jvm.MethodName) prog_13_method_9_code (3 : Nat) (Option.some FieldType.int)) ∈ lw_tbl := List.mem_of_getElem? (i := 1005) (by decide +kernel)
theorem w_966 : (Jvm.Cond.code ({ cls := "CardRightsModel", name := "person", desc := "(I)I" } : Jvm.MethodName) prog_13_method_10_code (2 : Nat) (Option.some FieldType.int)) ∈ lw_tbl := List.mem_of_getElem? (i := 1009) (by decide +kernel)
theorem w_970 : (Jvm.Cond.code ({ cls := "CardRightsModel", name := "card", desc := "(II)I" } : Jvm.MethodName) prog_13_method_11_code (3 : Nat) (Option.some FieldType.int)) ∈ lw_tbl := List.mem_of_getElem? (i := 1013) (by decide +kernel)
theorem w_971 : (Jvm.Cond.methodLink "CardRightsModel" (130 : Nat) ({ cls := "CardRightsModel", name := "isMinute", desc := "(I)Z" } : Jvm.MethodName)) ∈ lw_tbl := List.mem_of_getElem? (i := 1014) (by decide +kernel)
theorem w_972 : (Jvm.Cond.static ({ cls := "CardRightsModel", name := "isMinute", desc := "(I)Z" } : Jvm.MethodName)) ∈ lw_tbl := List.mem_of_getElem? (i := 1015) (by decide +kernel)
theorem w_973 : (Jvm.Cond.code ({ cls := "CardRightsModel", name := "isMinute", desc := "(I)Z" } : Jvm.MethodName) prog_13_method_5_code (1 : Nat) (Option.some FieldType.boolean)) ∈ lw_tbl := List.mem_of_getElem? (i := 1016) (by decide +kernel)
theorem w_974 : (Jvm.Cond.constant "CardRightsModel" (109 : Nat) (1000000 : Int32)) ∈ lw_tbl := List.mem_of_getElem? (i := 1017) (by decide +kernel)
theorem w_975 : (Jvm.Cond.methodLink "CardRightsModel" (137 : Nat) ({ cls := "CardRightsModel", name := "tell", desc := "(III)V" } : Jvm.MethodName)) ∈ lw_tbl := List.mem_of_getElem? (i := 1018) (by decide +kernel)
theorem w_977 : (Jvm.Cond.instanceMethod ({ cls := "CardRightsModel", name := "tell", desc := "(III)V" } : Jvm.MethodName)) ∈ lw_tbl := List.mem_of_getElem? (i := 1020) (by decide +kernel)
theorem w_978 : (Jvm.Cond.code ({ cls := "CardRightsModel", name := "tell", desc := "(III)V" } : Jvm.MethodName) prog_13_method_6_code (4 : Nat) (Option.none : Option FieldType)) ∈ lw_tbl := List.mem_of_getElem? (i := 1021) (by decide +kernel)
theorem w_982 : (Jvm.Cond.code ({ cls := "CardRightsModel", name := "right", desc := "(IIIII)I" } : Jvm.MethodName) prog_13_method_12_code (7 : Nat) (Option.some FieldType.int)) ∈ lw_tbl := List.mem_of_getElem? (i := 1025) (by decide +kernel)
theorem w_986 : (Jvm.Cond.code ({ cls := "CardRightsModel", name := "end", desc := "(II)I" } : Jvm.MethodName) prog_13_method_13_code (4 : Nat) (Option.some FieldType.int)) ∈ lw_tbl := List.mem_of_getElem? (i := 1029) (by decide +kernel)
theorem w_987 : (Jvm.Cond.methodLink "CardRightsModel" (144 : Nat) ({ cls := "CardRightsModel", name := "told", desc := "(III)I" } : Jvm.MethodName)) ∈ lw_tbl := List.mem_of_getElem? (i := 1030) (by decide +kernel)
theorem w_989 : (Jvm.Cond.instanceMethod ({ cls := "CardRightsModel", name := "told", desc := "(III)I" } : Jvm.MethodName)) ∈ lw_tbl := List.mem_of_getElem? (i := 1032) (by decide +kernel)
theorem w_990 : (Jvm.Cond.code ({ cls := "CardRightsModel", name := "told", desc := "(III)I" } : Jvm.MethodName) prog_13_method_7_code (5 : Nat) (Option.some FieldType.int)) ∈ lw_tbl := List.mem_of_getElem? (i := 1033) (by decide +kernel)
theorem w_994 : (Jvm.Cond.code ({ cls := "CardRightsModel", name := "lost", desc := "(II)I" } : Jvm.MethodName) prog_13_method_14_code (4 : Nat) (Option.some FieldType.int)) ∈ lw_tbl := List.mem_of_getElem? (i := 1037) (by decide +kernel)
theorem w_998 : (Jvm.Cond.code ({ cls := "CardRightsModel", name := "two", desc := "(IZ)Z" } : Jvm.MethodName) prog_13_method_15_code (4 : Nat) (Option.some FieldType.boolean)) ∈ lw_tbl := List.mem_of_getElem? (i := 1041) (by decide +kernel)
theorem w_1002 : (Jvm.Cond.code ({ cls := "CardRightsModel", name := "airlock", desc := "(IIZ)Z" } : Jvm.MethodName) prog_13_method_16_code (5 : Nat) (Option.some FieldType.boolean)) ∈ lw_tbl := List.mem_of_getElem? (i := 1045) (by decide +kernel)
theorem w_1006 : (Jvm.Cond.code ({ cls := "CardRightsModel", name := "state", desc := "(IZI)I" } : Jvm.MethodName) prog_13_method_18_code (5 : Nat) (Option.some FieldType.int)) ∈ lw_tbl := List.mem_of_getElem? (i := 1049) (by decide +kernel)
theorem w_1007 : (Jvm.Cond.methodLink "CardRightsModel" (151 : Nat) ({ cls := "CardRightsModel", name := "isLater", desc := "(I)Z" } : Jvm.MethodName)) ∈ lw_tbl := List.mem_of_getElem? (i := 1050) (by decide +kernel)
theorem w_1009 : (Jvm.Cond.instanceMethod ({ cls := "CardRightsModel", name := "isLater", desc := "(I)Z" } : Jvm.MethodName)) ∈ lw_tbl := List.mem_of_getElem? (i := 1052) (by decide +kernel)
theorem w_1010 : (Jvm.Cond.code ({ cls := "CardRightsModel", name := "isLater", desc := "(I)Z" } : Jvm.MethodName) prog_13_method_17_code (2 : Nat) (Option.some FieldType.boolean)) ∈ lw_tbl := List.mem_of_getElem? (i := 1053) (by decide +kernel)
theorem w_1014 : (Jvm.Cond.code ({ cls := "CardRightsModel", name := "asks", desc := "(IIII)I" } : Jvm.MethodName) prog_13_method_24_code (7 : Nat) (Option.some FieldType.int)) ∈ lw_tbl := List.mem_of_getElem? (i := 1057) (by decide +kernel)
theorem w_1015 : (Jvm.Cond.methodLink "CardRightsModel" (165 : Nat) ({ cls := "CardRightsModel", name := "isOf", desc := "(II)Z" } : Jvm.MethodName)) ∈ lw_tbl := List.mem_of_getElem? (i := 1058) (by decide +kernel)
theorem w_1017 : (Jvm.Cond.instanceMethod ({ cls := "CardRightsModel", name := "isOf", desc := "(II)Z" } : Jvm.MethodName)) ∈ lw_tbl := List.mem_of_getElem? (i := 1060) (by decide +kernel)
theorem w_1018 : (Jvm.Cond.code ({ cls := "CardRightsModel", name := "isOf", desc := "(II)Z" } : Jvm.MethodName) prog_13_method_23_code (3 : Nat) (Option.some FieldType.boolean)) ∈ lw_tbl := List.mem_of_getElem? (i := 1061) (by decide +kernel)
theorem w_1019 : (Jvm.Cond.methodLink "CardRightsModel" (168 : Nat) ({ cls := "CardRightsModel", name := "refused", desc := "(IIII)I" } : Jvm.MethodName)) ∈ lw_tbl := List.mem_of_getElem? (i := 1062) (by decide +kernel)
theorem w_1021 : (Jvm.Cond.instanceMethod ({ cls := "CardRightsModel", name := "refused", desc := "(IIII)I" } : Jvm.MethodName)) ∈ lw_tbl := List.mem_of_getElem? (i := 1064) (by decide +kernel)
theorem w_1022 : (Jvm.Cond.code ({ cls := "CardRightsModel", name := "refused", desc := "(IIII)I" } : Jvm.MethodName) prog_13_method_21_code (8 : Nat) (Option.some FieldType.int)) ∈ lw_tbl := List.mem_of_getElem? (i := 1065) (by decide +kernel)
theorem w_1023 : (Jvm.Cond.methodLink "CardRightsModel" (158 : Nat) ({ cls := "CardRightsModel", name := "why", desc := "(IIIII)I" } : Jvm.MethodName)) ∈ lw_tbl := List.mem_of_getElem? (i := 1066) (by decide +kernel)
theorem w_1025 : (Jvm.Cond.instanceMethod ({ cls := "CardRightsModel", name := "why", desc := "(IIIII)I" } : Jvm.MethodName)) ∈ lw_tbl := List.mem_of_getElem? (i := 1068) (by decide +kernel)
theorem w_1026 : (Jvm.Cond.code ({ cls := "CardRightsModel", name := "why", desc := "(IIIII)I" } : Jvm.MethodName) prog_13_method_20_code (11 : Nat) (Option.some FieldType.int)) ∈ lw_tbl := List.mem_of_getElem? (i := 1069) (by decide +kernel)
theorem w_1027 : (Jvm.Cond.methodLink "CardRightsModel" (154 : Nat) ({ cls := "CardRightsModel", name := "spans", desc := "(IIII)Z" } : Jvm.MethodName)) ∈ lw_tbl := List.mem_of_getElem? (i := 1070) (by decide +kernel)
theorem w_1029 : (Jvm.Cond.instanceMethod ({ cls := "CardRightsModel", name := "spans", desc := "(IIII)Z" } : Jvm.MethodName)) ∈ lw_tbl := List.mem_of_getElem? (i := 1072) (by decide +kernel)
theorem w_1030 : (Jvm.Cond.code ({ cls := "CardRightsModel", name := "spans", desc := "(IIII)Z" } : Jvm.MethodName) prog_13_method_19_code (8 : Nat) (Option.some FieldType.boolean)) ∈ lw_tbl := List.mem_of_getElem? (i := 1073) (by decide +kernel)
theorem w_1031 : (Jvm.Cond.methodLink "CardRightsModel" (172 : Nat) ({ cls := "CardRightsModel", name := "let", desc := "(IIII)V" } : Jvm.MethodName)) ∈ lw_tbl := List.mem_of_getElem? (i := 1074) (by decide +kernel)
theorem w_1033 : (Jvm.Cond.instanceMethod ({ cls := "CardRightsModel", name := "let", desc := "(IIII)V" } : Jvm.MethodName)) ∈ lw_tbl := List.mem_of_getElem? (i := 1076) (by decide +kernel)
theorem w_1034 : (Jvm.Cond.code ({ cls := "CardRightsModel", name := "let", desc := "(IIII)V" } : Jvm.MethodName) prog_13_method_22_code (8 : Nat) (Option.none : Option FieldType)) ∈ lw_tbl := List.mem_of_getElem? (i := 1077) (by decide +kernel)
theorem w_1038 : (Jvm.Cond.code ({ cls := "CardRightsModel", name := "both", desc := "(IIIII)I" } : Jvm.MethodName) prog_13_method_25_code (8 : Nat) (Option.some FieldType.int)) ∈ lw_tbl := List.mem_of_getElem? (i := 1081) (by decide +kernel)
theorem w_1042 : (Jvm.Cond.code ({ cls := "CardRightsModel", name := "off", desc := "(IZ)I" } : Jvm.MethodName) prog_13_method_26_code (6 : Nat) (Option.some FieldType.int)) ∈ lw_tbl := List.mem_of_getElem? (i := 1085) (by decide +kernel)
theorem w_1046 : (Jvm.Cond.code ({ cls := "CardRightsModel", name := "where", desc := "(I)I" } : Jvm.MethodName) prog_13_method_27_code (2 : Nat) (Option.some FieldType.int)) ∈ lw_tbl := List.mem_of_getElem? (i := 1089) (by decide +kernel)
theorem w_1050 : (Jvm.Cond.code ({ cls := "CardRightsModel", name := "inside", desc := "(I)I" } : Jvm.MethodName) prog_13_method_28_code (4 : Nat) (Option.some FieldType.int)) ∈ lw_tbl := List.mem_of_getElem? (i := 1093) (by decide +kernel)
theorem w_1054 : (Jvm.Cond.code ({ cls := "CardRightsModel", name := "muster", desc := "(II)I" } : Jvm.MethodName) prog_13_method_29_code (5 : Nat) (Option.some FieldType.int)) ∈ lw_tbl := List.mem_of_getElem? (i := 1097) (by decide +kernel)
theorem w_1058 : (Jvm.Cond.code ({ cls := "CardRightsModel", name := "against", desc := "()I" } : Jvm.MethodName) prog_13_method_30_code (1 : Nat) (Option.some FieldType.int)) ∈ lw_tbl := List.mem_of_getElem? (i := 1101) (by decide +kernel)
theorem w_1062 : (Jvm.Cond.code ({ cls := "CardRightsModel", name := "found", desc := "(II)I" } : Jvm.MethodName) prog_13_method_31_code (3 : Nat) (Option.some FieldType.int)) ∈ lw_tbl := List.mem_of_getElem? (i := 1105) (by decide +kernel)
theorem w_1066 : (Jvm.Cond.code ({ cls := "CardRightsModel", name := "uses", desc := "()I" } : Jvm.MethodName) prog_13_method_32_code (1 : Nat) (Option.some FieldType.int)) ∈ lw_tbl := List.mem_of_getElem? (i := 1109) (by decide +kernel)
theorem w_1070 : (Jvm.Cond.code ({ cls := "CardRightsModel", name := "fewest", desc := "()I" } : Jvm.MethodName) prog_13_method_35_code (6 : Nat) (Option.some FieldType.int)) ∈ lw_tbl := List.mem_of_getElem? (i := 1113) (by decide +kernel)
theorem w_1071 : (Jvm.Cond.methodLink "CardRightsModel" (179 : Nat) ({ cls := "CardRightsModel", name := "count", desc := "(I)I" } : Jvm.MethodName)) ∈ lw_tbl := List.mem_of_getElem? (i := 1114) (by decide +kernel)
theorem w_1072 : (Jvm.Cond.static ({ cls := "CardRightsModel", name := "count", desc := "(I)I" } : Jvm.MethodName)) ∈ lw_tbl := List.mem_of_getElem? (i := 1115) (by decide +kernel)
theorem w_1073 : (Jvm.Cond.code ({ cls := "CardRightsModel", name := "count", desc := "(I)I" } : Jvm.MethodName) prog_13_method_33_code (3 : Nat) (Option.some FieldType.int)) ∈ lw_tbl := List.mem_of_getElem? (i := 1116) (by decide +kernel)
theorem w_1074 : (Jvm.Cond.methodLink "CardRightsModel" (183 : Nat) ({ cls := "CardRightsModel", name := "meets", desc := "(I[II)Z" } : Jvm.MethodName)) ∈ lw_tbl := List.mem_of_getElem? (i := 1117) (by decide +kernel)
theorem w_1076 : (Jvm.Cond.instanceMethod ({ cls := "CardRightsModel", name := "meets", desc := "(I[II)Z" } : Jvm.MethodName)) ∈ lw_tbl := List.mem_of_getElem? (i := 1119) (by decide +kernel)
theorem w_1077 : (Jvm.Cond.code ({ cls := "CardRightsModel", name := "meets", desc := "(I[II)Z" } : Jvm.MethodName) prog_13_method_34_code (6 : Nat) (Option.some FieldType.boolean)) ∈ lw_tbl := List.mem_of_getElem? (i := 1120) (by decide +kernel)
theorem w_1081 : (Jvm.Cond.code ({ cls := "CardRightsModel", name := "now", desc := "()I" } : Jvm.MethodName) prog_13_method_36_code (1 : Nat) (Option.some FieldType.int)) ∈ lw_tbl := List.mem_of_getElem? (i := 1124) (by decide +kernel)
theorem w_1090 : (Jvm.Cond.selects "[Ljava/lang/Object;" ({ cls := "java/lang/Object", name := "getClass", desc := "()Ljava/lang/Class;" } : Jvm.MethodName) ({ cls := "java/lang/Object", name := "getClass", desc := "()Ljava/lang/Class;" } : Jvm.MethodName)) ∈ lw_tbl := List.mem_of_getElem? (i := 1133) (by decide +kernel)
theorem w_1091 : (Jvm.Cond.declares ({ cls := "java/lang/Object", name := "getClass", desc := "()Ljava/lang/Class;" } : Jvm.MethodName)) ∈ lw_tbl := List.mem_of_getElem? (i := 1134) (by decide +kernel)
theorem w_1098 : (Jvm.Cond.castable "CardRights$Room" "java/lang/Object") ∈ lw_tbl := List.mem_of_getElem? (i := 1141) (by decide +kernel)
theorem w_1099 : (Jvm.Cond.castable "CardRights$Door" "java/lang/Object") ∈ lw_tbl := List.mem_of_getElem? (i := 1142) (by decide +kernel)
theorem w_1100 : (Jvm.Cond.castable "CardRights$Person" "java/lang/Object") ∈ lw_tbl := List.mem_of_getElem? (i := 1143) (by decide +kernel)
theorem w_1101 : (Jvm.Cond.castable "CardRights$Card" "java/lang/Object") ∈ lw_tbl := List.mem_of_getElem? (i := 1144) (by decide +kernel)
theorem w_1102 : (Jvm.Cond.castable "CardRights$Right" "java/lang/Object") ∈ lw_tbl := List.mem_of_getElem? (i := 1145) (by decide +kernel)
theorem w_1103 : (Jvm.Cond.castable "CardRights$Row" "java/lang/Object") ∈ lw_tbl := List.mem_of_getElem? (i := 1146) (by decide +kernel)
theorem ws_0 : Cond.selects "CardRights$Needs" ({ cls := "CardRights$Needs", name := "clear", desc := "()V" } : MethodName) ({ cls := "CardRights$Needs", name := "clear", desc := "()V" } : MethodName) ∈ lw_tbl := List.mem_of_getElem? (i := 0) (by decide +kernel)
theorem ws_1 : Cond.selects "CardRights" ({ cls := "CardRights", name := "rightsThatHave", desc := "(I)I" } : MethodName) ({ cls := "CardRights", name := "rightsThatHave", desc := "(I)I" } : MethodName) ∈ lw_tbl := List.mem_of_getElem? (i := 1) (by decide +kernel)
theorem ws_2 : Cond.selects "CardRights$Right" ({ cls := "CardRights$Right", name := "isFor", desc := "(III)Z" } : MethodName) ({ cls := "CardRights$Right", name := "isFor", desc := "(III)Z" } : MethodName) ∈ lw_tbl := List.mem_of_getElem? (i := 2) (by decide +kernel)
theorem ws_3 : Cond.selects "CardRights$Right" ({ cls := "CardRights$Right", name := "spans", desc := "(I)Z" } : MethodName) ({ cls := "CardRights$Right", name := "spans", desc := "(I)Z" } : MethodName) ∈ lw_tbl := List.mem_of_getElem? (i := 3) (by decide +kernel)
theorem ws_4 : Cond.selects "CardRights$Needs" ({ cls := "CardRights$Needs", name := "add", desc := "(I)V" } : MethodName) ({ cls := "CardRights$Needs", name := "add", desc := "(I)V" } : MethodName) ∈ lw_tbl := List.mem_of_getElem? (i := 4) (by decide +kernel)
theorem ws_5 : Cond.selects "CardRights$Needs" ({ cls := "CardRights$Needs", name := "leastOfTheFewest", desc := "()I" } : MethodName) ({ cls := "CardRights$Needs", name := "leastOfTheFewest", desc := "()I" } : MethodName) ∈ lw_tbl := List.mem_of_getElem? (i := 5) (by decide +kernel)
theorem ws_6 : Cond.selects "CardRights$Needs" ({ cls := "CardRights$Needs", name := "leastWith", desc := "(III)I" } : MethodName) ({ cls := "CardRights$Needs", name := "leastWith", desc := "(III)I" } : MethodName) ∈ lw_tbl := List.mem_of_getElem? (i := 6) (by decide +kernel)
theorem ws_7 : Cond.selects "CardRights$Needs" ({ cls := "CardRights$Needs", name := "canBeMet", desc := "(III)Z" } : MethodName) ({ cls := "CardRights$Needs", name := "canBeMet", desc := "(III)Z" } : MethodName) ∈ lw_tbl := List.mem_of_getElem? (i := 7) (by decide +kernel)
theorem ws_8 : Cond.selects "java/lang/Throwable" ({ cls := "java/lang/Throwable", name := "fillInStackTrace", desc := "(I)Ljava/lang/Throwable;" } : MethodName) ({ cls := "java/lang/Throwable", name := "fillInStackTrace", desc := "(I)Ljava/lang/Throwable;" } : MethodName) ∈ lw_tbl := List.mem_of_getElem? (i := 8) (by decide +kernel)
theorem ws_9 : Cond.selects "java/util/ArrayList" ({ cls := "java/util/ArrayList", name := "add", desc := "(Ljava/lang/Object;[Ljava/lang/Object;I)V" } : MethodName) ({ cls := "java/util/ArrayList", name := "add", desc := "(Ljava/lang/Object;[Ljava/lang/Object;I)V" } : MethodName) ∈ lw_tbl := List.mem_of_getElem? (i := 9) (by decide +kernel)
theorem ws_10 : Cond.selects "java/util/ArrayList" ({ cls := "java/util/ArrayList", name := "grow", desc := "()[Ljava/lang/Object;" } : MethodName) ({ cls := "java/util/ArrayList", name := "grow", desc := "()[Ljava/lang/Object;" } : MethodName) ∈ lw_tbl := List.mem_of_getElem? (i := 10) (by decide +kernel)
theorem ws_11 : Cond.selects "java/util/ArrayList" ({ cls := "java/util/ArrayList", name := "grow", desc := "(I)[Ljava/lang/Object;" } : MethodName) ({ cls := "java/util/ArrayList", name := "grow", desc := "(I)[Ljava/lang/Object;" } : MethodName) ∈ lw_tbl := List.mem_of_getElem? (i := 11) (by decide +kernel)
theorem ws_12 : Cond.selects "CardRights" ({ cls := "CardRights", name := "roomNumbered", desc := "(I)LCardRights$Room;" } : MethodName) ({ cls := "CardRights", name := "roomNumbered", desc := "(I)LCardRights$Room;" } : MethodName) ∈ lw_tbl := List.mem_of_getElem? (i := 12) (by decide +kernel)
theorem ws_13 : Cond.selects "CardRights" ({ cls := "CardRights", name := "personNumbered", desc := "(I)LCardRights$Person;" } : MethodName) ({ cls := "CardRights", name := "personNumbered", desc := "(I)LCardRights$Person;" } : MethodName) ∈ lw_tbl := List.mem_of_getElem? (i := 13) (by decide +kernel)
theorem ws_14 : Cond.selects "CardRights" ({ cls := "CardRights", name := "cardNumbered", desc := "(I)LCardRights$Card;" } : MethodName) ({ cls := "CardRights", name := "cardNumbered", desc := "(I)LCardRights$Card;" } : MethodName) ∈ lw_tbl := List.mem_of_getElem? (i := 14) (by decide +kernel)
theorem ws_15 : Cond.selects "CardRights" ({ cls := "CardRights", name := "doorNumbered", desc := "(I)LCardRights$Door;" } : MethodName) ({ cls := "CardRights", name := "doorNumbered", desc := "(I)LCardRights$Door;" } : MethodName) ∈ lw_tbl := List.mem_of_getElem? (i := 15) (by decide +kernel)
theorem ws_16 : Cond.selects "CardRights$Door" ({ cls := "CardRights$Door", name := "isAirlockWith", desc := "(LCardRights$Door;)Z" } : MethodName) ({ cls := "CardRights$Door", name := "isAirlockWith", desc := "(LCardRights$Door;)Z" } : MethodName) ∈ lw_tbl := List.mem_of_getElem? (i := 16) (by decide +kernel)
theorem ws_17 : Cond.selects "CardRights$Door" ({ cls := "CardRights$Door", name := "setAirlockWith", desc := "(LCardRights$Door;Z)V" } : MethodName) ({ cls := "CardRights$Door", name := "setAirlockWith", desc := "(LCardRights$Door;Z)V" } : MethodName) ∈ lw_tbl := List.mem_of_getElem? (i := 17) (by decide +kernel)
theorem ws_18 : Cond.selects "CardRights" ({ cls := "CardRights", name := "checkMinuteFromNow", desc := "(I)V" } : MethodName) ({ cls := "CardRights", name := "checkMinuteFromNow", desc := "(I)V" } : MethodName) ∈ lw_tbl := List.mem_of_getElem? (i := 18) (by decide +kernel)
theorem ws_19 : Cond.selects "CardRights$Knowledge" ({ cls := "CardRights$Knowledge", name := "copyFrom", desc := "(LCardRights$Knowledge;)V" } : MethodName) ({ cls := "CardRights$Knowledge", name := "copyFrom", desc := "(LCardRights$Knowledge;)V" } : MethodName) ∈ lw_tbl := List.mem_of_getElem? (i := 19) (by decide +kernel)
theorem ws_20 : Cond.selects "CardRights" ({ cls := "CardRights", name := "goThroughRows", desc := "(LCardRights$Door;)I" } : MethodName) ({ cls := "CardRights", name := "goThroughRows", desc := "(LCardRights$Door;)I" } : MethodName) ∈ lw_tbl := List.mem_of_getElem? (i := 20) (by decide +kernel)
theorem ws_21 : Cond.selects "CardRights" ({ cls := "CardRights", name := "refusalLookingBack", desc := "(LCardRights$Row;)I" } : MethodName) ({ cls := "CardRights", name := "refusalLookingBack", desc := "(LCardRights$Row;)I" } : MethodName) ∈ lw_tbl := List.mem_of_getElem? (i := 21) (by decide +kernel)
theorem ws_22 : Cond.selects "CardRights$Knowledge" ({ cls := "CardRights$Knowledge", name := "knowsCard", desc := "(I)Z" } : MethodName) ({ cls := "CardRights$Knowledge", name := "knowsCard", desc := "(I)Z" } : MethodName) ∈ lw_tbl := List.mem_of_getElem? (i := 22) (by decide +kernel)
theorem ws_23 : Cond.selects "CardRights$Knowledge" ({ cls := "CardRights$Knowledge", name := "isLost", desc := "(II)Z" } : MethodName) ({ cls := "CardRights$Knowledge", name := "isLost", desc := "(II)Z" } : MethodName) ∈ lw_tbl := List.mem_of_getElem? (i := 23) (by decide +kernel)
theorem ws_24 : Cond.selects "CardRights" ({ cls := "CardRights", name := "hasRight", desc := "(LCardRights$Knowledge;III)Z" } : MethodName) ({ cls := "CardRights", name := "hasRight", desc := "(LCardRights$Knowledge;III)Z" } : MethodName) ∈ lw_tbl := List.mem_of_getElem? (i := 24) (by decide +kernel)
theorem ws_25 : Cond.selects "CardRights$Knowledge" ({ cls := "CardRights$Knowledge", name := "isEnded", desc := "(II)Z" } : MethodName) ({ cls := "CardRights$Knowledge", name := "isEnded", desc := "(II)Z" } : MethodName) ∈ lw_tbl := List.mem_of_getElem? (i := 25) (by decide +kernel)
theorem ws_26 : Cond.selects "CardRights$Findings" ({ cls := "CardRights$Findings", name := "add", desc := "(IIII)V" } : MethodName) ({ cls := "CardRights$Findings", name := "add", desc := "(IIII)V" } : MethodName) ∈ lw_tbl := List.mem_of_getElem? (i := 26) (by decide +kernel)
theorem ws_27 : Cond.selects "CardRights" ({ cls := "CardRights", name := "refusalByItself", desc := "(LCardRights$Card;LCardRights$Door;LCardRights$Room;I)I" } : MethodName) ({ cls := "CardRights", name := "refusalByItself", desc := "(LCardRights$Card;LCardRights$Door;LCardRights$Room;I)I" } : MethodName) ∈ lw_tbl := List.mem_of_getElem? (i := 27) (by decide +kernel)
theorem ws_28 : Cond.selects "CardRights$Door" ({ cls := "CardRights$Door", name := "otherRoom", desc := "(LCardRights$Room;)LCardRights$Room;" } : MethodName) ({ cls := "CardRights$Door", name := "otherRoom", desc := "(LCardRights$Room;)LCardRights$Room;" } : MethodName) ∈ lw_tbl := List.mem_of_getElem? (i := 28) (by decide +kernel)
theorem ws_29 : Cond.selects "CardRights" ({ cls := "CardRights", name := "isAirlockOpen", desc := "(LCardRights$Door;)Z" } : MethodName) ({ cls := "CardRights", name := "isAirlockOpen", desc := "(LCardRights$Door;)Z" } : MethodName) ∈ lw_tbl := List.mem_of_getElem? (i := 29) (by decide +kernel)
theorem ws_30 : Cond.selects "CardRights" ({ cls := "CardRights", name := "letIn", desc := "(LCardRights$Card;LCardRights$Door;LCardRights$Room;I)V" } : MethodName) ({ cls := "CardRights", name := "letIn", desc := "(LCardRights$Card;LCardRights$Door;LCardRights$Room;I)V" } : MethodName) ∈ lw_tbl := List.mem_of_getElem? (i := 30) (by decide +kernel)
theorem ws_31 : Cond.selects "CardRights$Uses" ({ cls := "CardRights$Uses", name := "mark", desc := "(III)V" } : MethodName) ({ cls := "CardRights$Uses", name := "mark", desc := "(III)V" } : MethodName) ∈ lw_tbl := List.mem_of_getElem? (i := 31) (by decide +kernel)
theorem ws_32 : Cond.selects "CardRights$Findings" ({ cls := "CardRights$Findings", name := "keptCount", desc := "()I" } : MethodName) ({ cls := "CardRights$Findings", name := "keptCount", desc := "()I" } : MethodName) ∈ lw_tbl := List.mem_of_getElem? (i := 32) (by decide +kernel)
theorem ws_33 : Cond.selects "CardRightsModel" ({ cls := "CardRightsModel", name := "goes", desc := "(ZZ)Z" } : MethodName) ({ cls := "CardRightsModel", name := "goes", desc := "(ZZ)Z" } : MethodName) ∈ lw_tbl := List.mem_of_getElem? (i := 33) (by decide +kernel)
theorem ws_34 : Cond.selects "CardRightsModel" ({ cls := "CardRightsModel", name := "tell", desc := "(III)V" } : MethodName) ({ cls := "CardRightsModel", name := "tell", desc := "(III)V" } : MethodName) ∈ lw_tbl := List.mem_of_getElem? (i := 34) (by decide +kernel)
theorem ws_35 : Cond.selects "CardRightsModel" ({ cls := "CardRightsModel", name := "told", desc := "(III)I" } : MethodName) ({ cls := "CardRightsModel", name := "told", desc := "(III)I" } : MethodName) ∈ lw_tbl := List.mem_of_getElem? (i := 35) (by decide +kernel)
theorem ws_36 : Cond.selects "CardRightsModel" ({ cls := "CardRightsModel", name := "isLater", desc := "(I)Z" } : MethodName) ({ cls := "CardRightsModel", name := "isLater", desc := "(I)Z" } : MethodName) ∈ lw_tbl := List.mem_of_getElem? (i := 36) (by decide +kernel)
theorem ws_37 : Cond.selects "CardRightsModel" ({ cls := "CardRightsModel", name := "isOf", desc := "(II)Z" } : MethodName) ({ cls := "CardRightsModel", name := "isOf", desc := "(II)Z" } : MethodName) ∈ lw_tbl := List.mem_of_getElem? (i := 37) (by decide +kernel)
theorem ws_38 : Cond.selects "CardRightsModel" ({ cls := "CardRightsModel", name := "refused", desc := "(IIII)I" } : MethodName) ({ cls := "CardRightsModel", name := "refused", desc := "(IIII)I" } : MethodName) ∈ lw_tbl := List.mem_of_getElem? (i := 38) (by decide +kernel)
theorem ws_39 : Cond.selects "CardRightsModel" ({ cls := "CardRightsModel", name := "why", desc := "(IIIII)I" } : MethodName) ({ cls := "CardRightsModel", name := "why", desc := "(IIIII)I" } : MethodName) ∈ lw_tbl := List.mem_of_getElem? (i := 39) (by decide +kernel)
theorem ws_40 : Cond.selects "CardRightsModel" ({ cls := "CardRightsModel", name := "spans", desc := "(IIII)Z" } : MethodName) ({ cls := "CardRightsModel", name := "spans", desc := "(IIII)Z" } : MethodName) ∈ lw_tbl := List.mem_of_getElem? (i := 40) (by decide +kernel)
theorem ws_41 : Cond.selects "CardRightsModel" ({ cls := "CardRightsModel", name := "let", desc := "(IIII)V" } : MethodName) ({ cls := "CardRightsModel", name := "let", desc := "(IIII)V" } : MethodName) ∈ lw_tbl := List.mem_of_getElem? (i := 41) (by decide +kernel)
theorem ws_42 : Cond.selects "CardRightsModel" ({ cls := "CardRightsModel", name := "meets", desc := "(I[II)Z" } : MethodName) ({ cls := "CardRightsModel", name := "meets", desc := "(I[II)Z" } : MethodName) ∈ lw_tbl := List.mem_of_getElem? (i := 42) (by decide +kernel)
theorem wn_over : (Jvm.Cond.arrayOver (FieldType.object "java/lang/Object")) ∈ lw_tbl := w_418
theorem wn_cpN : (Jvm.Cond.native ({ cls := "java/lang/System", name := "arraycopy", desc := "(Ljava/lang/Object;ILjava/lang/Object;II)V" } : Jvm.MethodName)) ∈ lw_tbl := w_425
theorem wn_cpS : (Jvm.Cond.static ({ cls := "java/lang/System", name := "arraycopy", desc := "(Ljava/lang/Object;ILjava/lang/Object;II)V" } : Jvm.MethodName)) ∈ lw_tbl := w_424
theorem wn_sys : (Jvm.Cond.initialized "java/lang/System") ∈ lw_tbl := w_19
theorem wn_lsU : (Jvm.Cond.laysStatic "java/lang/Throwable" "UNASSIGNED_STACK" "[Ljava/lang/StackTraceElement;") ∈ lw_tbl := w_290
theorem wn_lsS : (Jvm.Cond.laysStatic "java/lang/Throwable" "SUPPRESSED_SENTINEL" "Ljava/util/List;") ∈ lw_tbl := w_292
end
section
/-! WHAT IS KNOWN OF THE TABLES, from the law's first state s0 on -/
def cr_ty (ca : Nat → ClassId) : List (ClassId × FieldType) := [(ca 0, .int), (ca 1, .long), (ca 2, .boolean), (ca 3, .object "java/lang/Object")]
/-- a word that warmer tables keep -/
def cr_ok (w : Cond) : Bool := match w with
  | .fieldLinkNest .. => true
  | .methodLinkNest .. => true
  | w => w.onTables && w.keepsFace
theorem cr_warm {w : Cond} (hk : cr_ok w = true) {u v : State} {a b : Array Value} (hW : u.WarmedH v.vm) (h : w.before a u = true) : w.before b v = true := by
  unfold cr_ok at hk
  split at hk
  · exact va_any rfl (va_Nw.warmF hW (va_any rfl h))
  · exact va_any rfl (va_Nw.warmM hW (va_any rfl h))
  · simp only [Bool.and_eq_true] at hk
    have h3 : w.before a (u.setVm v.vm) = true := Cond.before_shiftedFace (State.Shifted.of_warmed hW) _ hk.2 h
    exact va_tabs (u := u.setVm v.vm) (U := v) hk.1 rfl h3
def cr_W0 (s0 : State) : State → Prop := fun V => s0.WarmedH V.vm
theorem cr_W0_st (s0 : State) : cr_St (cr_W0 s0) := fun _ _ h1 h2 => State.WarmedH.trans h2 h1
/-- the law's first state: the tables' words; the classes and their slots; the empty array of the lists -/
def cr_Z0 (s0 : State) (D : va_G) (ca : Nat → ClassId) (e0 : Nat) : Prop :=
  (∃ a0 : Array Value, ∀ w ∈ lw_tbl, w.before a0 s0 = true) ∧ va_K D kc (cr_ty ca) s0
  ∧ va_Z "java/util/ArrayList" "DEFAULTCAPACITY_EMPTY_ELEMENTDATA" "[Ljava/lang/Object;" (.ref e0) (fun q => s0.heap.size ≤ q) s0 s0.heap
  ∧ va_T (.object "java/lang/Object") e0 0 (fun _ => .null) (fun q => s0.heap.size ≤ q) s0 s0.heap
  ∧ (∃ a0 : Array Value, (Cond.isRef (.static "java/lang/Throwable" "UNASSIGNED_STACK" "[Ljava/lang/StackTraceElement;")).before a0 s0 = true ∧ (Cond.isRef (.static "java/lang/Throwable" "SUPPRESSED_SENTINEL" "Ljava/util/List;")).before a0 s0 = true)
  ∧ (∀ own k tx, Cond.stringRef own k tx ∈ lw_tbl → ∃ a, vk_R own k tx a s0) ∧ ∃ mi : Nat, va_Mi "[Ljava/lang/Object;" mi s0
theorem cr_w {s0 V : State} {D : va_G} {ca : Nat → ClassId} {e0 : Nat} (Z : cr_Z0 s0 D ca e0) {w : Cond} (hm : w ∈ lw_tbl) (hk : cr_ok w = true) (hU : cr_W0 s0 V) (args : Array Value) : w.before args V = true := by
  obtain ⟨⟨a0, h⟩, -⟩ := Z
  exact cr_warm hk hU (h w hm)
theorem cr_wa {s0 V : State} {D : va_G} {ca : Nat → ClassId} {e0 : Nat} (Z : cr_Z0 s0 D ca e0) {ty : FieldType} (hm : Cond.arrayClass ty ∈ lw_tbl) (hU : cr_W0 s0 V) (args : Array Value) : (Cond.arrayClass ty).before args V = true := by
  obtain ⟨⟨a0, h⟩, -⟩ := Z
  exact word_at hU (Or.inr ⟨ty, rfl⟩) (h _ hm)
theorem cr_Z0K {s0 V : State} {D : va_G} {ca : Nat → ClassId} {e0 : Nat} (Z : cr_Z0 s0 D ca e0) (hU : cr_W0 s0 V) : va_K D kc (cr_ty ca) V := va_K.moved hU.alike Z.2.1
theorem cr_fo {V : State} {D : va_G} {ca : Nat → ClassId} (hK : va_K D kc (cr_ty ca) V) : V.vm.findClass ("[" ++ (FieldType.object "java/lang/Object").toString) = some (ca 3) := by
  obtain ⟨kA, comp, -, -, -, h⟩ := (hK.2 3 _ rfl).2
  exact h
section CRB
variable {p : Program} {l : Launch} {e : Env} {R : Room} {s : State} {m : MethodId} {args : Array Value} {below : List Frame} {meth : Method} {c : Code} {lo mc ms d : Nat} {Q : cr_Q}
theorem cr_nil : ∀ x ∈ ([] : List (Nat × cr_T)), cr_Snd p l e R s m args below meth c lo mc ms Q x.1 x.2 := fun _ h => absurd h List.not_mem_nil
theorem cr_cons {pc : Nat} {tr : cr_T} {t : List (Nat × cr_T)} (h : cr_Snd p l e R s m args below meth c lo mc ms Q pc tr) (ht : ∀ x ∈ t, cr_Snd p l e R s m args below meth c lo mc ms Q x.1 x.2) : ∀ x ∈ (pc, tr) :: t, cr_Snd p l e R s m args below meth c lo mc ms Q x.1 x.2 := List.forall_mem_cons.mpr ⟨h, ht⟩
theorem cr_app {a b : List (Nat × cr_T)} (ha : ∀ x ∈ a, cr_Snd p l e R s m args below meth c lo mc ms Q x.1 x.2) (hb : ∀ x ∈ b, cr_Snd p l e R s m args below meth c lo mc ms Q x.1 x.2) : ∀ x ∈ a ++ b, cr_Snd p l e R s m args below meth c lo mc ms Q x.1 x.2 := fun x h => (List.mem_append.mp h).elim (ha x) (hb x)
end CRB
theorem k_C {s0 V : State} {D : va_G} {ca : Nat → ClassId} {e0 : Nat} (Z : cr_Z0 s0 D ca e0) (hU : cr_W0 s0 V) (args : Array Value) : ∀ w ∈ u_ws R_C T_C 10, w.before args V = true := by
  unfold u_ws
  simp only [List.range, List.range.loop, List.map_cons, List.map_nil]
  refine List.forall_mem_cons.mpr ⟨cr_w Z w_142 rfl hU args, ?_⟩
  refine List.forall_mem_cons.mpr ⟨cr_w Z w_144 rfl hU args, ?_⟩
  refine List.forall_mem_cons.mpr ⟨cr_w Z w_146 rfl hU args, ?_⟩
  refine List.forall_mem_cons.mpr ⟨cr_w Z w_148 rfl hU args, ?_⟩
  refine List.forall_mem_cons.mpr ⟨cr_w Z w_150 rfl hU args, ?_⟩
  refine List.forall_mem_cons.mpr ⟨cr_w Z w_152 rfl hU args, ?_⟩
  refine List.forall_mem_cons.mpr ⟨cr_w Z w_154 rfl hU args, ?_⟩
  refine List.forall_mem_cons.mpr ⟨cr_w Z w_156 rfl hU args, ?_⟩
  refine List.forall_mem_cons.mpr ⟨cr_w Z w_158 rfl hU args, ?_⟩
  refine List.forall_mem_cons.mpr ⟨cr_w Z w_160 rfl hU args, ?_⟩
  exact fun _ h => absurd h List.not_mem_nil
theorem k_Cd {s0 V : State} {D : va_G} {ca : Nat → ClassId} {e0 : Nat} (Z : cr_Z0 s0 D ca e0) (hU : cr_W0 s0 V) (args : Array Value) : ∀ w ∈ u_ws R_Cd T_Cd 3, w.before args V = true := by
  unfold u_ws
  simp only [List.range, List.range.loop, List.map_cons, List.map_nil]
  refine List.forall_mem_cons.mpr ⟨cr_w Z w_559 rfl hU args, ?_⟩
  refine List.forall_mem_cons.mpr ⟨cr_w Z w_561 rfl hU args, ?_⟩
  refine List.forall_mem_cons.mpr ⟨cr_w Z w_563 rfl hU args, ?_⟩
  exact fun _ h => absurd h List.not_mem_nil
theorem k_Dr {s0 V : State} {D : va_G} {ca : Nat → ClassId} {e0 : Nat} (Z : cr_Z0 s0 D ca e0) (hU : cr_W0 s0 V) (args : Array Value) : ∀ w ∈ u_ws R_Dr T_Dr 10, w.before args V = true := by
  unfold u_ws
  simp only [List.range, List.range.loop, List.map_cons, List.map_nil]
  refine List.forall_mem_cons.mpr ⟨cr_w Z w_471 rfl hU args, ?_⟩
  refine List.forall_mem_cons.mpr ⟨cr_w Z w_473 rfl hU args, ?_⟩
  refine List.forall_mem_cons.mpr ⟨cr_w Z w_475 rfl hU args, ?_⟩
  refine List.forall_mem_cons.mpr ⟨cr_w Z w_477 rfl hU args, ?_⟩
  refine List.forall_mem_cons.mpr ⟨cr_w Z w_479 rfl hU args, ?_⟩
  refine List.forall_mem_cons.mpr ⟨cr_w Z w_481 rfl hU args, ?_⟩
  refine List.forall_mem_cons.mpr ⟨cr_w Z w_483 rfl hU args, ?_⟩
  refine List.forall_mem_cons.mpr ⟨cr_w Z w_485 rfl hU args, ?_⟩
  refine List.forall_mem_cons.mpr ⟨cr_w Z w_487 rfl hU args, ?_⟩
  refine List.forall_mem_cons.mpr ⟨cr_w Z w_489 rfl hU args, ?_⟩
  exact fun _ h => absurd h List.not_mem_nil
theorem k_Fi {s0 V : State} {D : va_G} {ca : Nat → ClassId} {e0 : Nat} (Z : cr_Z0 s0 D ca e0) (hU : cr_W0 s0 V) (args : Array Value) : ∀ w ∈ u_ws R_Fi T_Fi 2, w.before args V = true := by
  unfold u_ws
  simp only [List.range, List.range.loop, List.map_cons, List.map_nil]
  refine List.forall_mem_cons.mpr ⟨cr_w Z w_98 rfl hU args, ?_⟩
  refine List.forall_mem_cons.mpr ⟨cr_w Z w_100 rfl hU args, ?_⟩
  exact fun _ h => absurd h List.not_mem_nil
theorem k_Kn {s0 V : State} {D : va_G} {ca : Nat → ClassId} {e0 : Nat} (Z : cr_Z0 s0 D ca e0) (hU : cr_W0 s0 V) (args : Array Value) : ∀ w ∈ u_ws R_Kn T_Kn 4, w.before args V = true := by
  unfold u_ws
  simp only [List.range, List.range.loop, List.map_cons, List.map_nil]
  refine List.forall_mem_cons.mpr ⟨cr_w Z w_78 rfl hU args, ?_⟩
  refine List.forall_mem_cons.mpr ⟨cr_w Z w_80 rfl hU args, ?_⟩
  refine List.forall_mem_cons.mpr ⟨cr_w Z w_82 rfl hU args, ?_⟩
  refine List.forall_mem_cons.mpr ⟨cr_w Z w_84 rfl hU args, ?_⟩
  exact fun _ h => absurd h List.not_mem_nil
theorem k_Ne {s0 V : State} {D : va_G} {ca : Nat → ClassId} {e0 : Nat} (Z : cr_Z0 s0 D ca e0) (hU : cr_W0 s0 V) (args : Array Value) : ∀ w ∈ u_ws R_Ne T_Ne 2, w.before args V = true := by
  unfold u_ws
  simp only [List.range, List.range.loop, List.map_cons, List.map_nil]
  refine List.forall_mem_cons.mpr ⟨cr_w Z w_127 rfl hU args, ?_⟩
  refine List.forall_mem_cons.mpr ⟨cr_w Z w_129 rfl hU args, ?_⟩
  exact fun _ h => absurd h List.not_mem_nil
theorem k_Pe {s0 V : State} {D : va_G} {ca : Nat → ClassId} {e0 : Nat} (Z : cr_Z0 s0 D ca e0) (hU : cr_W0 s0 V) (args : Array Value) : ∀ w ∈ u_ws R_Pe T_Pe 2, w.before args V = true := by
  unfold u_ws
  simp only [List.range, List.range.loop, List.map_cons, List.map_nil]
  refine List.forall_mem_cons.mpr ⟨cr_w Z w_524 rfl hU args, ?_⟩
  refine List.forall_mem_cons.mpr ⟨cr_w Z w_526 rfl hU args, ?_⟩
  exact fun _ h => absurd h List.not_mem_nil
theorem k_Ri {s0 V : State} {D : va_G} {ca : Nat → ClassId} {e0 : Nat} (Z : cr_Z0 s0 D ca e0) (hU : cr_W0 s0 V) (args : Array Value) : ∀ w ∈ u_ws R_Ri T_Ri 5, w.before args V = true := by
  unfold u_ws
  simp only [List.range, List.range.loop, List.map_cons, List.map_nil]
  refine List.forall_mem_cons.mpr ⟨cr_w Z w_588 rfl hU args, ?_⟩
  refine List.forall_mem_cons.mpr ⟨cr_w Z w_590 rfl hU args, ?_⟩
  refine List.forall_mem_cons.mpr ⟨cr_w Z w_592 rfl hU args, ?_⟩
  refine List.forall_mem_cons.mpr ⟨cr_w Z w_594 rfl hU args, ?_⟩
  refine List.forall_mem_cons.mpr ⟨cr_w Z w_596 rfl hU args, ?_⟩
  exact fun _ h => absurd h List.not_mem_nil
theorem k_Ro {s0 V : State} {D : va_G} {ca : Nat → ClassId} {e0 : Nat} (Z : cr_Z0 s0 D ca e0) (hU : cr_W0 s0 V) (args : Array Value) : ∀ w ∈ u_ws R_Ro T_Ro 2, w.before args V = true := by
  unfold u_ws
  simp only [List.range, List.range.loop, List.map_cons, List.map_nil]
  refine List.forall_mem_cons.mpr ⟨cr_w Z w_356 rfl hU args, ?_⟩
  refine List.forall_mem_cons.mpr ⟨cr_w Z w_358 rfl hU args, ?_⟩
  exact fun _ h => absurd h List.not_mem_nil
theorem k_Rw {s0 V : State} {D : va_G} {ca : Nat → ClassId} {e0 : Nat} (Z : cr_Z0 s0 D ca e0) (hU : cr_W0 s0 V) (args : Array Value) : ∀ w ∈ u_ws R_Rw T_Rw 3, w.before args V = true := by
  unfold u_ws
  simp only [List.range, List.range.loop, List.map_cons, List.map_nil]
  refine List.forall_mem_cons.mpr ⟨cr_w Z w_761 rfl hU args, ?_⟩
  refine List.forall_mem_cons.mpr ⟨cr_w Z w_763 rfl hU args, ?_⟩
  refine List.forall_mem_cons.mpr ⟨cr_w Z w_765 rfl hU args, ?_⟩
  exact fun _ h => absurd h List.not_mem_nil
theorem k_Us {s0 V : State} {D : va_G} {ca : Nat → ClassId} {e0 : Nat} (Z : cr_Z0 s0 D ca e0) (hU : cr_W0 s0 V) (args : Array Value) : ∀ w ∈ u_ws R_Us T_Us 2, w.before args V = true := by
  unfold u_ws
  simp only [List.range, List.range.loop, List.map_cons, List.map_nil]
  refine List.forall_mem_cons.mpr ⟨cr_w Z w_113 rfl hU args, ?_⟩
  refine List.forall_mem_cons.mpr ⟨cr_w Z w_115 rfl hU args, ?_⟩
  exact fun _ h => absurd h List.not_mem_nil
theorem k_M {s0 V : State} {D : va_G} {ca : Nat → ClassId} {e0 : Nat} (Z : cr_Z0 s0 D ca e0) (hU : cr_W0 s0 V) (args : Array Value) : ∀ w ∈ u_ws R_M T_M 41, w.before args V = true := by
  unfold u_ws
  simp only [List.range, List.range.loop, List.map_cons, List.map_nil]
  refine List.forall_mem_cons.mpr ⟨cr_w Z w_860 rfl hU args, ?_⟩
  refine List.forall_mem_cons.mpr ⟨cr_w Z w_862 rfl hU args, ?_⟩
  refine List.forall_mem_cons.mpr ⟨cr_w Z w_864 rfl hU args, ?_⟩
  refine List.forall_mem_cons.mpr ⟨cr_w Z w_866 rfl hU args, ?_⟩
  refine List.forall_mem_cons.mpr ⟨cr_w Z w_868 rfl hU args, ?_⟩
  refine List.forall_mem_cons.mpr ⟨cr_w Z w_870 rfl hU args, ?_⟩
  refine List.forall_mem_cons.mpr ⟨cr_w Z w_872 rfl hU args, ?_⟩
  refine List.forall_mem_cons.mpr ⟨cr_w Z w_874 rfl hU args, ?_⟩
  refine List.forall_mem_cons.mpr ⟨cr_w Z w_876 rfl hU args, ?_⟩
  refine List.forall_mem_cons.mpr ⟨cr_w Z w_878 rfl hU args, ?_⟩
  refine List.forall_mem_cons.mpr ⟨cr_w Z w_880 rfl hU args, ?_⟩
  refine List.forall_mem_cons.mpr ⟨cr_w Z w_882 rfl hU args, ?_⟩
  refine List.forall_mem_cons.mpr ⟨cr_w Z w_884 rfl hU args, ?_⟩
  refine List.forall_mem_cons.mpr ⟨cr_w Z w_886 rfl hU args, ?_⟩
  refine List.forall_mem_cons.mpr ⟨cr_w Z w_888 rfl hU args, ?_⟩
  refine List.forall_mem_cons.mpr ⟨cr_w Z w_890 rfl hU args, ?_⟩
  refine List.forall_mem_cons.mpr ⟨cr_w Z w_892 rfl hU args, ?_⟩
  refine List.forall_mem_cons.mpr ⟨cr_w Z w_894 rfl hU args, ?_⟩
  refine List.forall_mem_cons.mpr ⟨cr_w Z w_896 rfl hU args, ?_⟩
  refine List.forall_mem_cons.mpr ⟨cr_w Z w_898 rfl hU args, ?_⟩
  refine List.forall_mem_cons.mpr ⟨cr_w Z w_900 rfl hU args, ?_⟩
  refine List.forall_mem_cons.mpr ⟨cr_w Z w_902 rfl hU args, ?_⟩
  refine List.forall_mem_cons.mpr ⟨cr_w Z w_904 rfl hU args, ?_⟩
  refine List.forall_mem_cons.mpr ⟨cr_w Z w_906 rfl hU args, ?_⟩
  refine List.forall_mem_cons.mpr ⟨cr_w Z w_908 rfl hU args, ?_⟩
  refine List.forall_mem_cons.mpr ⟨cr_w Z w_910 rfl hU args, ?_⟩
  refine List.forall_mem_cons.mpr ⟨cr_w Z w_912 rfl hU args, ?_⟩
  refine List.forall_mem_cons.mpr ⟨cr_w Z w_914 rfl hU args, ?_⟩
  refine List.forall_mem_cons.mpr ⟨cr_w Z w_916 rfl hU args, ?_⟩
  refine List.forall_mem_cons.mpr ⟨cr_w Z w_918 rfl hU args, ?_⟩
  refine List.forall_mem_cons.mpr ⟨cr_w Z w_920 rfl hU args, ?_⟩
  refine List.forall_mem_cons.mpr ⟨cr_w Z w_922 rfl hU args, ?_⟩
  refine List.forall_mem_cons.mpr ⟨cr_w Z w_924 rfl hU args, ?_⟩
  refine List.forall_mem_cons.mpr ⟨cr_w Z w_926 rfl hU args, ?_⟩
  refine List.forall_mem_cons.mpr ⟨cr_w Z w_928 rfl hU args, ?_⟩
  refine List.forall_mem_cons.mpr ⟨cr_w Z w_930 rfl hU args, ?_⟩
  refine List.forall_mem_cons.mpr ⟨cr_w Z w_932 rfl hU args, ?_⟩
  refine List.forall_mem_cons.mpr ⟨cr_w Z w_934 rfl hU args, ?_⟩
  refine List.forall_mem_cons.mpr ⟨cr_w Z w_936 rfl hU args, ?_⟩
  refine List.forall_mem_cons.mpr ⟨cr_w Z w_938 rfl hU args, ?_⟩
  refine List.forall_mem_cons.mpr ⟨cr_w Z w_940 rfl hU args, ?_⟩
  exact fun _ h => absurd h List.not_mem_nil
theorem k_AL {s0 V : State} {D : va_G} {ca : Nat → ClassId} {e0 : Nat} (Z : cr_Z0 s0 D ca e0) (hU : cr_W0 s0 V) (args : Array Value) : ∀ w ∈ u_ws R_AL T_AL 3, w.before args V = true := by
  unfold u_ws
  simp only [List.range, List.range.loop, List.map_cons, List.map_nil]
  refine List.forall_mem_cons.mpr ⟨cr_w Z w_54 rfl hU args, ?_⟩
  refine List.forall_mem_cons.mpr ⟨cr_w Z w_56 rfl hU args, ?_⟩
  refine List.forall_mem_cons.mpr ⟨cr_w Z w_58 rfl hU args, ?_⟩
  exact fun _ h => absurd h List.not_mem_nil
theorem u_C_init {s0 : State} {D : va_G} {ca : Nat → ClassId} {e0 : Nat} (Z : cr_Z0 s0 D ca e0) : ∀ V, cr_W0 s0 V → (cw_C_init).before #[] V = true ∧ (Cond.initialized (y_C_init).cls).before #[] V = true := fun V hU => ⟨cr_w Z w_31 rfl hU #[], cr_w Z w_1 rfl hU #[]⟩
theorem u_AL_init {s0 : State} {D : va_G} {ca : Nat → ClassId} {e0 : Nat} (Z : cr_Z0 s0 D ca e0) : ∀ V, cr_W0 s0 V → (cw_AL_init).before #[] V = true ∧ (Cond.initialized (y_AL_init).cls).before #[] V = true := fun V hU => ⟨cr_w Z w_39 rfl hU #[], cr_w Z w_4 rfl hU #[]⟩
theorem u_AbL_init {s0 : State} {D : va_G} {ca : Nat → ClassId} {e0 : Nat} (Z : cr_Z0 s0 D ca e0) : ∀ V, cr_W0 s0 V → (cw_AbL_init).before #[] V = true ∧ (Cond.initialized (y_AbL_init).cls).before #[] V = true := fun V hU => ⟨cr_w Z w_42 rfl hU #[], cr_w Z w_3 rfl hU #[]⟩
theorem u_AbC_init {s0 : State} {D : va_G} {ca : Nat → ClassId} {e0 : Nat} (Z : cr_Z0 s0 D ca e0) : ∀ V, cr_W0 s0 V → (cw_AbC_init).before #[] V = true ∧ (Cond.initialized (y_AbC_init).cls).before #[] V = true := fun V hU => ⟨cr_w Z w_45 rfl hU #[], cr_w Z w_2 rfl hU #[]⟩
theorem u_Kn_init {s0 : State} {D : va_G} {ca : Nat → ClassId} {e0 : Nat} (Z : cr_Z0 s0 D ca e0) : ∀ V, cr_W0 s0 V → (cw_Kn_init).before #[] V = true ∧ (Cond.initialized (y_Kn_init).cls).before #[] V = true := fun V hU => ⟨cr_w Z w_65 rfl hU #[], cr_w Z w_5 rfl hU #[]⟩
theorem u_Ar_fill {s0 : State} {D : va_G} {ca : Nat → ClassId} {e0 : Nat} (Z : cr_Z0 s0 D ca e0) : ∀ V, cr_W0 s0 V → (cw_Ar_fill).before #[] V = true ∧ (Cond.initialized (y_Ar_fill).cls).before #[] V = true := fun V hU => ⟨cr_w Z w_69 rfl hU #[], cr_w Z w_6 rfl hU #[]⟩
theorem u_Fi_init {s0 : State} {D : va_G} {ca : Nat → ClassId} {e0 : Nat} (Z : cr_Z0 s0 D ca e0) : ∀ V, cr_W0 s0 V → (cw_Fi_init).before #[] V = true ∧ (Cond.initialized (y_Fi_init).cls).before #[] V = true := fun V hU => ⟨cr_w Z w_92 rfl hU #[], cr_w Z w_7 rfl hU #[]⟩
theorem u_Us_init {s0 : State} {D : va_G} {ca : Nat → ClassId} {e0 : Nat} (Z : cr_Z0 s0 D ca e0) : ∀ V, cr_W0 s0 V → (cw_Us_init).before #[] V = true ∧ (Cond.initialized (y_Us_init).cls).before #[] V = true := fun V hU => ⟨cr_w Z w_107 rfl hU #[], cr_w Z w_8 rfl hU #[]⟩
theorem u_Ne_init {s0 : State} {D : va_G} {ca : Nat → ClassId} {e0 : Nat} (Z : cr_Z0 s0 D ca e0) : ∀ V, cr_W0 s0 V → (cw_Ne_init).before #[] V = true ∧ (Cond.initialized (y_Ne_init).cls).before #[] V = true := fun V hU => ⟨cr_w Z w_123 rfl hU #[], cr_w Z w_9 rfl hU #[]⟩
theorem u_C_against {s0 : State} {D : va_G} {ca : Nat → ClassId} {e0 : Nat} (Z : cr_Z0 s0 D ca e0) : ∀ V, cr_W0 s0 V → (cw_C_against).before #[] V = true ∧ (Cond.initialized (y_C_against).cls).before #[] V = true := fun V hU => ⟨cr_w Z w_166 rfl hU #[], cr_w Z w_1 rfl hU #[]⟩
theorem u_C_uses {s0 : State} {D : va_G} {ca : Nat → ClassId} {e0 : Nat} (Z : cr_Z0 s0 D ca e0) : ∀ V, cr_W0 s0 V → (cw_C_uses).before #[] V = true ∧ (Cond.initialized (y_C_uses).cls).before #[] V = true := fun V hU => ⟨cr_w Z w_170 rfl hU #[], cr_w Z w_1 rfl hU #[]⟩
theorem u_C_fewest {s0 : State} {D : va_G} {ca : Nat → ClassId} {e0 : Nat} (Z : cr_Z0 s0 D ca e0) : ∀ V, cr_W0 s0 V → (cw_C_fewest).before #[] V = true ∧ (Cond.initialized (y_C_fewest).cls).before #[] V = true := fun V hU => ⟨cr_w Z w_174 rfl hU #[], cr_w Z w_1 rfl hU #[]⟩
theorem u_Ne_clear {s0 : State} {D : va_G} {ca : Nat → ClassId} {e0 : Nat} (Z : cr_Z0 s0 D ca e0) : ∀ V, cr_W0 s0 V → (cw_Ne_clear).before #[] V = true ∧ (Cond.initialized (y_Ne_clear).cls).before #[] V = true := fun V hU => ⟨cr_w Z w_178 rfl hU #[], cr_w Z w_9 rfl hU #[]⟩
theorem u_C_rightsThatHave {s0 : State} {D : va_G} {ca : Nat → ClassId} {e0 : Nat} (Z : cr_Z0 s0 D ca e0) : ∀ V, cr_W0 s0 V → (cw_C_rightsThatHave).before #[] V = true ∧ (Cond.initialized (y_C_rightsThatHave).cls).before #[] V = true := fun V hU => ⟨cr_w Z w_182 rfl hU #[], cr_w Z w_1 rfl hU #[]⟩
theorem u_Us_groupOf {s0 : State} {D : va_G} {ca : Nat → ClassId} {e0 : Nat} (Z : cr_Z0 s0 D ca e0) : ∀ V, cr_W0 s0 V → (cw_Us_groupOf).before #[] V = true ∧ (Cond.initialized (y_Us_groupOf).cls).before #[] V = true := fun V hU => ⟨cr_w Z w_185 rfl hU #[], cr_w Z w_8 rfl hU #[]⟩
theorem u_Us_zoneOf {s0 : State} {D : va_G} {ca : Nat → ClassId} {e0 : Nat} (Z : cr_Z0 s0 D ca e0) : ∀ V, cr_W0 s0 V → (cw_Us_zoneOf).before #[] V = true ∧ (Cond.initialized (y_Us_zoneOf).cls).before #[] V = true := fun V hU => ⟨cr_w Z w_188 rfl hU #[], cr_w Z w_8 rfl hU #[]⟩
theorem u_Us_timeOf {s0 : State} {D : va_G} {ca : Nat → ClassId} {e0 : Nat} (Z : cr_Z0 s0 D ca e0) : ∀ V, cr_W0 s0 V → (cw_Us_timeOf).before #[] V = true ∧ (Cond.initialized (y_Us_timeOf).cls).before #[] V = true := fun V hU => ⟨cr_w Z w_191 rfl hU #[], cr_w Z w_8 rfl hU #[]⟩
theorem u_AL_size {s0 : State} {D : va_G} {ca : Nat → ClassId} {e0 : Nat} (Z : cr_Z0 s0 D ca e0) : ∀ V, cr_W0 s0 V → (cw_AL_size).before #[] V = true ∧ (Cond.initialized (y_AL_size).cls).before #[] V = true := fun V hU => ⟨cr_w Z w_201 rfl hU #[], cr_w Z w_4 rfl hU #[]⟩
theorem u_AL_get {s0 : State} {D : va_G} {ca : Nat → ClassId} {e0 : Nat} (Z : cr_Z0 s0 D ca e0) : ∀ V, cr_W0 s0 V → (cw_AL_get).before #[] V = true ∧ (Cond.initialized (y_AL_get).cls).before #[] V = true := fun V hU => ⟨cr_w Z w_210 rfl hU #[], cr_w Z w_4 rfl hU #[]⟩
theorem u_Ob_checkIndex {s0 : State} {D : va_G} {ca : Nat → ClassId} {e0 : Nat} (Z : cr_Z0 s0 D ca e0) : ∀ V, cr_W0 s0 V → (cw_Ob_checkIndex).before #[] V = true ∧ (Cond.initialized (y_Ob_checkIndex).cls).before #[] V = true := fun V hU => ⟨cr_w Z w_213 rfl hU #[], cr_w Z w_20 rfl hU #[]⟩
theorem u_Pr_checkIndex {s0 : State} {D : va_G} {ca : Nat → ClassId} {e0 : Nat} (Z : cr_Z0 s0 D ca e0) : ∀ V, cr_W0 s0 V → (cw_Pr_checkIndex).before #[] V = true ∧ (Cond.initialized (y_Pr_checkIndex).cls).before #[] V = true := fun V hU => ⟨cr_w Z w_216 rfl hU #[], cr_w Z w_21 rfl hU #[]⟩
theorem u_AL_elementData {s0 : State} {D : va_G} {ca : Nat → ClassId} {e0 : Nat} (Z : cr_Z0 s0 D ca e0) : ∀ V, cr_W0 s0 V → (cw_AL_elementData).before #[] V = true ∧ (Cond.initialized (y_AL_elementData).cls).before #[] V = true := fun V hU => ⟨cr_w Z w_220 rfl hU #[], cr_w Z w_4 rfl hU #[]⟩
theorem u_Ri_isFor {s0 : State} {D : va_G} {ca : Nat → ClassId} {e0 : Nat} (Z : cr_Z0 s0 D ca e0) : ∀ V, cr_W0 s0 V → (cw_Ri_isFor).before #[] V = true ∧ (Cond.initialized (y_Ri_isFor).cls).before #[] V = true := fun V hU => ⟨cr_w Z w_226 rfl hU #[], cr_w Z w_25 rfl hU #[]⟩
theorem u_Ri_spans {s0 : State} {D : va_G} {ca : Nat → ClassId} {e0 : Nat} (Z : cr_Z0 s0 D ca e0) : ∀ V, cr_W0 s0 V → (cw_Ri_spans).before #[] V = true ∧ (Cond.initialized (y_Ri_spans).cls).before #[] V = true := fun V hU => ⟨cr_w Z w_230 rfl hU #[], cr_w Z w_25 rfl hU #[]⟩
theorem u_Ne_add {s0 : State} {D : va_G} {ca : Nat → ClassId} {e0 : Nat} (Z : cr_Z0 s0 D ca e0) : ∀ V, cr_W0 s0 V → (cw_Ne_add).before #[] V = true ∧ (Cond.initialized (y_Ne_add).cls).before #[] V = true := fun V hU => ⟨cr_w Z w_234 rfl hU #[], cr_w Z w_9 rfl hU #[]⟩
theorem u_Ne_leastOfTheFewest {s0 : State} {D : va_G} {ca : Nat → ClassId} {e0 : Nat} (Z : cr_Z0 s0 D ca e0) : ∀ V, cr_W0 s0 V → (cw_Ne_leastOfTheFewest).before #[] V = true ∧ (Cond.initialized (y_Ne_leastOfTheFewest).cls).before #[] V = true := fun V hU => ⟨cr_w Z w_238 rfl hU #[], cr_w Z w_9 rfl hU #[]⟩
theorem u_Ne_leastWith {s0 : State} {D : va_G} {ca : Nat → ClassId} {e0 : Nat} (Z : cr_Z0 s0 D ca e0) : ∀ V, cr_W0 s0 V → (cw_Ne_leastWith).before #[] V = true ∧ (Cond.initialized (y_Ne_leastWith).cls).before #[] V = true := fun V hU => ⟨cr_w Z w_242 rfl hU #[], cr_w Z w_9 rfl hU #[]⟩
theorem u_Ne_canBeMet {s0 : State} {D : va_G} {ca : Nat → ClassId} {e0 : Nat} (Z : cr_Z0 s0 D ca e0) : ∀ V, cr_W0 s0 V → (cw_Ne_canBeMet).before #[] V = true ∧ (Cond.initialized (y_Ne_canBeMet).cls).before #[] V = true := fun V hU => ⟨cr_w Z w_246 rfl hU #[], cr_w Z w_9 rfl hU #[]⟩
theorem u_C_now {s0 : State} {D : va_G} {ca : Nat → ClassId} {e0 : Nat} (Z : cr_Z0 s0 D ca e0) : ∀ V, cr_W0 s0 V → (cw_C_now).before #[] V = true ∧ (Cond.initialized (y_C_now).cls).before #[] V = true := fun V hU => ⟨cr_w Z w_250 rfl hU #[], cr_w Z w_1 rfl hU #[]⟩
theorem u_C_room {s0 : State} {D : va_G} {ca : Nat → ClassId} {e0 : Nat} (Z : cr_Z0 s0 D ca e0) : ∀ V, cr_W0 s0 V → (cw_C_room).before #[] V = true ∧ (Cond.initialized (y_C_room).cls).before #[] V = true := fun V hU => ⟨cr_w Z w_259 rfl hU #[], cr_w Z w_1 rfl hU #[]⟩
theorem u_C_checkZone {s0 : State} {D : va_G} {ca : Nat → ClassId} {e0 : Nat} (Z : cr_Z0 s0 D ca e0) : ∀ V, cr_W0 s0 V → (cw_C_checkZone).before #[] V = true ∧ (Cond.initialized (y_C_checkZone).cls).before #[] V = true := fun V hU => ⟨cr_w Z w_262 rfl hU #[], cr_w Z w_1 rfl hU #[]⟩
theorem u_Ro_init {s0 : State} {D : va_G} {ca : Nat → ClassId} {e0 : Nat} (Z : cr_Z0 s0 D ca e0) : ∀ V, cr_W0 s0 V → (cw_Ro_init).before #[] V = true ∧ (Cond.initialized (y_Ro_init).cls).before #[] V = true := fun V hU => ⟨cr_w Z w_350 rfl hU #[], cr_w Z w_16 rfl hU #[]⟩
theorem u_AL_add0 {s0 : State} {D : va_G} {ca : Nat → ClassId} {e0 : Nat} (Z : cr_Z0 s0 D ca e0) : ∀ V, cr_W0 s0 V → (cw_AL_add0).before #[] V = true ∧ (Cond.initialized (y_AL_add0).cls).before #[] V = true := fun V hU => ⟨cr_w Z w_369 rfl hU #[], cr_w Z w_4 rfl hU #[]⟩
theorem u_AL_add1 {s0 : State} {D : va_G} {ca : Nat → ClassId} {e0 : Nat} (Z : cr_Z0 s0 D ca e0) : ∀ V, cr_W0 s0 V → (cw_AL_add1).before #[] V = true ∧ (Cond.initialized (y_AL_add1).cls).before #[] V = true := fun V hU => ⟨cr_w Z w_373 rfl hU #[], cr_w Z w_4 rfl hU #[]⟩
theorem u_AL_grow0 {s0 : State} {D : va_G} {ca : Nat → ClassId} {e0 : Nat} (Z : cr_Z0 s0 D ca e0) : ∀ V, cr_W0 s0 V → (cw_AL_grow0).before #[] V = true ∧ (Cond.initialized (y_AL_grow0).cls).before #[] V = true := fun V hU => ⟨cr_w Z w_377 rfl hU #[], cr_w Z w_4 rfl hU #[]⟩
theorem u_AL_grow1 {s0 : State} {D : va_G} {ca : Nat → ClassId} {e0 : Nat} (Z : cr_Z0 s0 D ca e0) : ∀ V, cr_W0 s0 V → (cw_AL_grow1).before #[] V = true ∧ (Cond.initialized (y_AL_grow1).cls).before #[] V = true := fun V hU => ⟨cr_w Z w_381 rfl hU #[], cr_w Z w_4 rfl hU #[]⟩
theorem u_As_newLength {s0 : State} {D : va_G} {ca : Nat → ClassId} {e0 : Nat} (Z : cr_Z0 s0 D ca e0) : ∀ V, cr_W0 s0 V → (cw_As_newLength).before #[] V = true ∧ (Cond.initialized (y_As_newLength).cls).before #[] V = true := fun V hU => ⟨cr_w Z w_384 rfl hU #[], cr_w Z w_17 rfl hU #[]⟩
theorem u_Ma_max {s0 : State} {D : va_G} {ca : Nat → ClassId} {e0 : Nat} (Z : cr_Z0 s0 D ca e0) : ∀ V, cr_W0 s0 V → (cw_Ma_max).before #[] V = true ∧ (Cond.initialized (y_Ma_max).cls).before #[] V = true := fun V hU => ⟨cr_w Z w_387 rfl hU #[], cr_w Z w_18 rfl hU #[]⟩
theorem u_As_hugeLength {s0 : State} {D : va_G} {ca : Nat → ClassId} {e0 : Nat} (Z : cr_Z0 s0 D ca e0) : ∀ V, cr_W0 s0 V → (cw_As_hugeLength).before #[] V = true ∧ (Cond.initialized (y_As_hugeLength).cls).before #[] V = true := fun V hU => ⟨cr_w Z w_391 rfl hU #[], cr_w Z w_17 rfl hU #[]⟩
theorem u_Ar_copyOf0 {s0 : State} {D : va_G} {ca : Nat → ClassId} {e0 : Nat} (Z : cr_Z0 s0 D ca e0) : ∀ V, cr_W0 s0 V → (cw_Ar_copyOf0).before #[] V = true ∧ (Cond.initialized (y_Ar_copyOf0).cls).before #[] V = true := fun V hU => ⟨cr_w Z w_394 rfl hU #[], cr_w Z w_6 rfl hU #[]⟩
theorem u_Ar_copyOf1 {s0 : State} {D : va_G} {ca : Nat → ClassId} {e0 : Nat} (Z : cr_Z0 s0 D ca e0) : ∀ V, cr_W0 s0 V → (cw_Ar_copyOf1).before #[] V = true ∧ (Cond.initialized (y_Ar_copyOf1).cls).before #[] V = true := fun V hU => ⟨cr_w Z w_416 rfl hU #[], cr_w Z w_6 rfl hU #[]⟩
theorem u_Ma_min {s0 : State} {D : va_G} {ca : Nat → ClassId} {e0 : Nat} (Z : cr_Z0 s0 D ca e0) : ∀ V, cr_W0 s0 V → (cw_Ma_min).before #[] V = true ∧ (Cond.initialized (y_Ma_min).cls).before #[] V = true := fun V hU => ⟨cr_w Z w_422 rfl hU #[], cr_w Z w_18 rfl hU #[]⟩
theorem u_C_door {s0 : State} {D : va_G} {ca : Nat → ClassId} {e0 : Nat} (Z : cr_Z0 s0 D ca e0) : ∀ V, cr_W0 s0 V → (cw_C_door).before #[] V = true ∧ (Cond.initialized (y_C_door).cls).before #[] V = true := fun V hU => ⟨cr_w Z w_434 rfl hU #[], cr_w Z w_1 rfl hU #[]⟩
theorem u_C_roomNumbered {s0 : State} {D : va_G} {ca : Nat → ClassId} {e0 : Nat} (Z : cr_Z0 s0 D ca e0) : ∀ V, cr_W0 s0 V → (cw_C_roomNumbered).before #[] V = true ∧ (Cond.initialized (y_C_roomNumbered).cls).before #[] V = true := fun V hU => ⟨cr_w Z w_438 rfl hU #[], cr_w Z w_1 rfl hU #[]⟩
theorem u_Dr_init {s0 : State} {D : va_G} {ca : Nat → ClassId} {e0 : Nat} (Z : cr_Z0 s0 D ca e0) : ∀ V, cr_W0 s0 V → (cw_Dr_init).before #[] V = true ∧ (Cond.initialized (y_Dr_init).cls).before #[] V = true := fun V hU => ⟨cr_w Z w_446 rfl hU #[], cr_w Z w_22 rfl hU #[]⟩
theorem u_C_person {s0 : State} {D : va_G} {ca : Nat → ClassId} {e0 : Nat} (Z : cr_Z0 s0 D ca e0) : ∀ V, cr_W0 s0 V → (cw_C_person).before #[] V = true ∧ (Cond.initialized (y_C_person).cls).before #[] V = true := fun V hU => ⟨cr_w Z w_498 rfl hU #[], cr_w Z w_1 rfl hU #[]⟩
theorem u_C_checkGroup {s0 : State} {D : va_G} {ca : Nat → ClassId} {e0 : Nat} (Z : cr_Z0 s0 D ca e0) : ∀ V, cr_W0 s0 V → (cw_C_checkGroup).before #[] V = true ∧ (Cond.initialized (y_C_checkGroup).cls).before #[] V = true := fun V hU => ⟨cr_w Z w_501 rfl hU #[], cr_w Z w_1 rfl hU #[]⟩
theorem u_AL_isEmpty {s0 : State} {D : va_G} {ca : Nat → ClassId} {e0 : Nat} (Z : cr_Z0 s0 D ca e0) : ∀ V, cr_W0 s0 V → (cw_AL_isEmpty).before #[] V = true ∧ (Cond.initialized (y_AL_isEmpty).cls).before #[] V = true := fun V hU => ⟨cr_w Z w_512 rfl hU #[], cr_w Z w_4 rfl hU #[]⟩
theorem u_Pe_init {s0 : State} {D : va_G} {ca : Nat → ClassId} {e0 : Nat} (Z : cr_Z0 s0 D ca e0) : ∀ V, cr_W0 s0 V → (cw_Pe_init).before #[] V = true ∧ (Cond.initialized (y_Pe_init).cls).before #[] V = true := fun V hU => ⟨cr_w Z w_518 rfl hU #[], cr_w Z w_23 rfl hU #[]⟩
theorem u_C_card {s0 : State} {D : va_G} {ca : Nat → ClassId} {e0 : Nat} (Z : cr_Z0 s0 D ca e0) : ∀ V, cr_W0 s0 V → (cw_C_card).before #[] V = true ∧ (Cond.initialized (y_C_card).cls).before #[] V = true := fun V hU => ⟨cr_w Z w_535 rfl hU #[], cr_w Z w_1 rfl hU #[]⟩
theorem u_C_personNumbered {s0 : State} {D : va_G} {ca : Nat → ClassId} {e0 : Nat} (Z : cr_Z0 s0 D ca e0) : ∀ V, cr_W0 s0 V → (cw_C_personNumbered).before #[] V = true ∧ (Cond.initialized (y_C_personNumbered).cls).before #[] V = true := fun V hU => ⟨cr_w Z w_539 rfl hU #[], cr_w Z w_1 rfl hU #[]⟩
theorem u_C_checkMinute {s0 : State} {D : va_G} {ca : Nat → ClassId} {e0 : Nat} (Z : cr_Z0 s0 D ca e0) : ∀ V, cr_W0 s0 V → (cw_C_checkMinute).before #[] V = true ∧ (Cond.initialized (y_C_checkMinute).cls).before #[] V = true := fun V hU => ⟨cr_w Z w_543 rfl hU #[], cr_w Z w_1 rfl hU #[]⟩
theorem u_Cd_init {s0 : State} {D : va_G} {ca : Nat → ClassId} {e0 : Nat} (Z : cr_Z0 s0 D ca e0) : ∀ V, cr_W0 s0 V → (cw_Cd_init).before #[] V = true ∧ (Cond.initialized (y_Cd_init).cls).before #[] V = true := fun V hU => ⟨cr_w Z w_551 rfl hU #[], cr_w Z w_24 rfl hU #[]⟩
theorem u_C_right {s0 : State} {D : va_G} {ca : Nat → ClassId} {e0 : Nat} (Z : cr_Z0 s0 D ca e0) : ∀ V, cr_W0 s0 V → (cw_C_right).before #[] V = true ∧ (Cond.initialized (y_C_right).cls).before #[] V = true := fun V hU => ⟨cr_w Z w_572 rfl hU #[], cr_w Z w_1 rfl hU #[]⟩
theorem u_C_checkTimeOfDay {s0 : State} {D : va_G} {ca : Nat → ClassId} {e0 : Nat} (Z : cr_Z0 s0 D ca e0) : ∀ V, cr_W0 s0 V → (cw_C_checkTimeOfDay).before #[] V = true ∧ (Cond.initialized (y_C_checkTimeOfDay).cls).before #[] V = true := fun V hU => ⟨cr_w Z w_575 rfl hU #[], cr_w Z w_1 rfl hU #[]⟩
theorem u_Ri_init {s0 : State} {D : va_G} {ca : Nat → ClassId} {e0 : Nat} (Z : cr_Z0 s0 D ca e0) : ∀ V, cr_W0 s0 V → (cw_Ri_init).before #[] V = true ∧ (Cond.initialized (y_Ri_init).cls).before #[] V = true := fun V hU => ⟨cr_w Z w_580 rfl hU #[], cr_w Z w_25 rfl hU #[]⟩
theorem u_C_end {s0 : State} {D : va_G} {ca : Nat → ClassId} {e0 : Nat} (Z : cr_Z0 s0 D ca e0) : ∀ V, cr_W0 s0 V → (cw_C_end).before #[] V = true ∧ (Cond.initialized (y_C_end).cls).before #[] V = true := fun V hU => ⟨cr_w Z w_605 rfl hU #[], cr_w Z w_1 rfl hU #[]⟩
theorem u_C_lost {s0 : State} {D : va_G} {ca : Nat → ClassId} {e0 : Nat} (Z : cr_Z0 s0 D ca e0) : ∀ V, cr_W0 s0 V → (cw_C_lost).before #[] V = true ∧ (Cond.initialized (y_C_lost).cls).before #[] V = true := fun V hU => ⟨cr_w Z w_613 rfl hU #[], cr_w Z w_1 rfl hU #[]⟩
theorem u_C_cardNumbered {s0 : State} {D : va_G} {ca : Nat → ClassId} {e0 : Nat} (Z : cr_Z0 s0 D ca e0) : ∀ V, cr_W0 s0 V → (cw_C_cardNumbered).before #[] V = true ∧ (Cond.initialized (y_C_cardNumbered).cls).before #[] V = true := fun V hU => ⟨cr_w Z w_617 rfl hU #[], cr_w Z w_1 rfl hU #[]⟩
theorem u_C_two {s0 : State} {D : va_G} {ca : Nat → ClassId} {e0 : Nat} (Z : cr_Z0 s0 D ca e0) : ∀ V, cr_W0 s0 V → (cw_C_two).before #[] V = true ∧ (Cond.initialized (y_C_two).cls).before #[] V = true := fun V hU => ⟨cr_w Z w_625 rfl hU #[], cr_w Z w_1 rfl hU #[]⟩
theorem u_C_doorNumbered {s0 : State} {D : va_G} {ca : Nat → ClassId} {e0 : Nat} (Z : cr_Z0 s0 D ca e0) : ∀ V, cr_W0 s0 V → (cw_C_doorNumbered).before #[] V = true ∧ (Cond.initialized (y_C_doorNumbered).cls).before #[] V = true := fun V hU => ⟨cr_w Z w_629 rfl hU #[], cr_w Z w_1 rfl hU #[]⟩
theorem u_C_airlock {s0 : State} {D : va_G} {ca : Nat → ClassId} {e0 : Nat} (Z : cr_Z0 s0 D ca e0) : ∀ V, cr_W0 s0 V → (cw_C_airlock).before #[] V = true ∧ (Cond.initialized (y_C_airlock).cls).before #[] V = true := fun V hU => ⟨cr_w Z w_637 rfl hU #[], cr_w Z w_1 rfl hU #[]⟩
theorem u_Dr_isAirlockWith {s0 : State} {D : va_G} {ca : Nat → ClassId} {e0 : Nat} (Z : cr_Z0 s0 D ca e0) : ∀ V, cr_W0 s0 V → (cw_Dr_isAirlockWith).before #[] V = true ∧ (Cond.initialized (y_Dr_isAirlockWith).cls).before #[] V = true := fun V hU => ⟨cr_w Z w_642 rfl hU #[], cr_w Z w_22 rfl hU #[]⟩
theorem u_Dr_setAirlockWith {s0 : State} {D : va_G} {ca : Nat → ClassId} {e0 : Nat} (Z : cr_Z0 s0 D ca e0) : ∀ V, cr_W0 s0 V → (cw_Dr_setAirlockWith).before #[] V = true ∧ (Cond.initialized (y_Dr_setAirlockWith).cls).before #[] V = true := fun V hU => ⟨cr_w Z w_646 rfl hU #[], cr_w Z w_22 rfl hU #[]⟩
theorem u_C_state {s0 : State} {D : va_G} {ca : Nat → ClassId} {e0 : Nat} (Z : cr_Z0 s0 D ca e0) : ∀ V, cr_W0 s0 V → (cw_C_state).before #[] V = true ∧ (Cond.initialized (y_C_state).cls).before #[] V = true := fun V hU => ⟨cr_w Z w_653 rfl hU #[], cr_w Z w_1 rfl hU #[]⟩
theorem u_C_checkMinuteFromNow {s0 : State} {D : va_G} {ca : Nat → ClassId} {e0 : Nat} (Z : cr_Z0 s0 D ca e0) : ∀ V, cr_W0 s0 V → (cw_C_checkMinuteFromNow).before #[] V = true ∧ (Cond.initialized (y_C_checkMinuteFromNow).cls).before #[] V = true := fun V hU => ⟨cr_w Z w_657 rfl hU #[], cr_w Z w_1 rfl hU #[]⟩
theorem u_C_off {s0 : State} {D : va_G} {ca : Nat → ClassId} {e0 : Nat} (Z : cr_Z0 s0 D ca e0) : ∀ V, cr_W0 s0 V → (cw_C_off).before #[] V = true ∧ (Cond.initialized (y_C_off).cls).before #[] V = true := fun V hU => ⟨cr_w Z w_665 rfl hU #[], cr_w Z w_1 rfl hU #[]⟩
theorem u_Kn_copyFrom {s0 : State} {D : va_G} {ca : Nat → ClassId} {e0 : Nat} (Z : cr_Z0 s0 D ca e0) : ∀ V, cr_W0 s0 V → (cw_Kn_copyFrom).before #[] V = true ∧ (Cond.initialized (y_Kn_copyFrom).cls).before #[] V = true := fun V hU => ⟨cr_w Z w_669 rfl hU #[], cr_w Z w_5 rfl hU #[]⟩
theorem u_C_goThroughRows {s0 : State} {D : va_G} {ca : Nat → ClassId} {e0 : Nat} (Z : cr_Z0 s0 D ca e0) : ∀ V, cr_W0 s0 V → (cw_C_goThroughRows).before #[] V = true ∧ (Cond.initialized (y_C_goThroughRows).cls).before #[] V = true := fun V hU => ⟨cr_w Z w_674 rfl hU #[], cr_w Z w_1 rfl hU #[]⟩
theorem u_C_refusalLookingBack {s0 : State} {D : va_G} {ca : Nat → ClassId} {e0 : Nat} (Z : cr_Z0 s0 D ca e0) : ∀ V, cr_W0 s0 V → (cw_C_refusalLookingBack).before #[] V = true ∧ (Cond.initialized (y_C_refusalLookingBack).cls).before #[] V = true := fun V hU => ⟨cr_w Z w_679 rfl hU #[], cr_w Z w_1 rfl hU #[]⟩
theorem u_C_refusalOfCard {s0 : State} {D : va_G} {ca : Nat → ClassId} {e0 : Nat} (Z : cr_Z0 s0 D ca e0) : ∀ V, cr_W0 s0 V → (cw_C_refusalOfCard).before #[] V = true ∧ (Cond.initialized (y_C_refusalOfCard).cls).before #[] V = true := fun V hU => ⟨cr_w Z w_682 rfl hU #[], cr_w Z w_1 rfl hU #[]⟩
theorem u_Kn_knowsCard {s0 : State} {D : va_G} {ca : Nat → ClassId} {e0 : Nat} (Z : cr_Z0 s0 D ca e0) : ∀ V, cr_W0 s0 V → (cw_Kn_knowsCard).before #[] V = true ∧ (Cond.initialized (y_Kn_knowsCard).cls).before #[] V = true := fun V hU => ⟨cr_w Z w_686 rfl hU #[], cr_w Z w_5 rfl hU #[]⟩
theorem u_Kn_isLost {s0 : State} {D : va_G} {ca : Nat → ClassId} {e0 : Nat} (Z : cr_Z0 s0 D ca e0) : ∀ V, cr_W0 s0 V → (cw_Kn_isLost).before #[] V = true ∧ (Cond.initialized (y_Kn_isLost).cls).before #[] V = true := fun V hU => ⟨cr_w Z w_690 rfl hU #[], cr_w Z w_5 rfl hU #[]⟩
theorem u_Kn_isFrom {s0 : State} {D : va_G} {ca : Nat → ClassId} {e0 : Nat} (Z : cr_Z0 s0 D ca e0) : ∀ V, cr_W0 s0 V → (cw_Kn_isFrom).before #[] V = true ∧ (Cond.initialized (y_Kn_isFrom).cls).before #[] V = true := fun V hU => ⟨cr_w Z w_693 rfl hU #[], cr_w Z w_5 rfl hU #[]⟩
theorem u_C_hasRight {s0 : State} {D : va_G} {ca : Nat → ClassId} {e0 : Nat} (Z : cr_Z0 s0 D ca e0) : ∀ V, cr_W0 s0 V → (cw_C_hasRight).before #[] V = true ∧ (Cond.initialized (y_C_hasRight).cls).before #[] V = true := fun V hU => ⟨cr_w Z w_697 rfl hU #[], cr_w Z w_1 rfl hU #[]⟩
theorem u_Kn_isEnded {s0 : State} {D : va_G} {ca : Nat → ClassId} {e0 : Nat} (Z : cr_Z0 s0 D ca e0) : ∀ V, cr_W0 s0 V → (cw_Kn_isEnded).before #[] V = true ∧ (Cond.initialized (y_Kn_isEnded).cls).before #[] V = true := fun V hU => ⟨cr_w Z w_701 rfl hU #[], cr_w Z w_5 rfl hU #[]⟩
theorem u_Fi_add {s0 : State} {D : va_G} {ca : Nat → ClassId} {e0 : Nat} (Z : cr_Z0 s0 D ca e0) : ∀ V, cr_W0 s0 V → (cw_Fi_add).before #[] V = true ∧ (Cond.initialized (y_Fi_add).cls).before #[] V = true := fun V hU => ⟨cr_w Z w_705 rfl hU #[], cr_w Z w_7 rfl hU #[]⟩
theorem u_AL_clear {s0 : State} {D : va_G} {ca : Nat → ClassId} {e0 : Nat} (Z : cr_Z0 s0 D ca e0) : ∀ V, cr_W0 s0 V → (cw_AL_clear).before #[] V = true ∧ (Cond.initialized (y_AL_clear).cls).before #[] V = true := fun V hU => ⟨cr_w Z w_714 rfl hU #[], cr_w Z w_4 rfl hU #[]⟩
theorem u_C_asks {s0 : State} {D : va_G} {ca : Nat → ClassId} {e0 : Nat} (Z : cr_Z0 s0 D ca e0) : ∀ V, cr_W0 s0 V → (cw_C_asks).before #[] V = true ∧ (Cond.initialized (y_C_asks).cls).before #[] V = true := fun V hU => ⟨cr_w Z w_721 rfl hU #[], cr_w Z w_1 rfl hU #[]⟩
theorem u_C_roomOfDoor {s0 : State} {D : va_G} {ca : Nat → ClassId} {e0 : Nat} (Z : cr_Z0 s0 D ca e0) : ∀ V, cr_W0 s0 V → (cw_C_roomOfDoor).before #[] V = true ∧ (Cond.initialized (y_C_roomOfDoor).cls).before #[] V = true := fun V hU => ⟨cr_w Z w_724 rfl hU #[], cr_w Z w_1 rfl hU #[]⟩
theorem u_C_checkSpaceForRows {s0 : State} {D : va_G} {ca : Nat → ClassId} {e0 : Nat} (Z : cr_Z0 s0 D ca e0) : ∀ V, cr_W0 s0 V → (cw_C_checkSpaceForRows).before #[] V = true ∧ (Cond.initialized (y_C_checkSpaceForRows).cls).before #[] V = true := fun V hU => ⟨cr_w Z w_728 rfl hU #[], cr_w Z w_1 rfl hU #[]⟩
theorem u_C_refusalByItself {s0 : State} {D : va_G} {ca : Nat → ClassId} {e0 : Nat} (Z : cr_Z0 s0 D ca e0) : ∀ V, cr_W0 s0 V → (cw_C_refusalByItself).before #[] V = true ∧ (Cond.initialized (y_C_refusalByItself).cls).before #[] V = true := fun V hU => ⟨cr_w Z w_733 rfl hU #[], cr_w Z w_1 rfl hU #[]⟩
theorem u_Dr_otherRoom {s0 : State} {D : va_G} {ca : Nat → ClassId} {e0 : Nat} (Z : cr_Z0 s0 D ca e0) : ∀ V, cr_W0 s0 V → (cw_Dr_otherRoom).before #[] V = true ∧ (Cond.initialized (y_Dr_otherRoom).cls).before #[] V = true := fun V hU => ⟨cr_w Z w_737 rfl hU #[], cr_w Z w_22 rfl hU #[]⟩
theorem u_C_isAirlockOpen {s0 : State} {D : va_G} {ca : Nat → ClassId} {e0 : Nat} (Z : cr_Z0 s0 D ca e0) : ∀ V, cr_W0 s0 V → (cw_C_isAirlockOpen).before #[] V = true ∧ (Cond.initialized (y_C_isAirlockOpen).cls).before #[] V = true := fun V hU => ⟨cr_w Z w_741 rfl hU #[], cr_w Z w_1 rfl hU #[]⟩
theorem u_C_letIn {s0 : State} {D : va_G} {ca : Nat → ClassId} {e0 : Nat} (Z : cr_Z0 s0 D ca e0) : ∀ V, cr_W0 s0 V → (cw_C_letIn).before #[] V = true ∧ (Cond.initialized (y_C_letIn).cls).before #[] V = true := fun V hU => ⟨cr_w Z w_745 rfl hU #[], cr_w Z w_1 rfl hU #[]⟩
theorem u_Us_mark {s0 : State} {D : va_G} {ca : Nat → ClassId} {e0 : Nat} (Z : cr_Z0 s0 D ca e0) : ∀ V, cr_W0 s0 V → (cw_Us_mark).before #[] V = true ∧ (Cond.initialized (y_Us_mark).cls).before #[] V = true := fun V hU => ⟨cr_w Z w_749 rfl hU #[], cr_w Z w_8 rfl hU #[]⟩
theorem u_Rw_init {s0 : State} {D : va_G} {ca : Nat → ClassId} {e0 : Nat} (Z : cr_Z0 s0 D ca e0) : ∀ V, cr_W0 s0 V → (cw_Rw_init).before #[] V = true ∧ (Cond.initialized (y_Rw_init).cls).before #[] V = true := fun V hU => ⟨cr_w Z w_753 rfl hU #[], cr_w Z w_26 rfl hU #[]⟩
theorem u_C_both {s0 : State} {D : va_G} {ca : Nat → ClassId} {e0 : Nat} (Z : cr_Z0 s0 D ca e0) : ∀ V, cr_W0 s0 V → (cw_C_both).before #[] V = true ∧ (Cond.initialized (y_C_both).cls).before #[] V = true := fun V hU => ⟨cr_w Z w_774 rfl hU #[], cr_w Z w_1 rfl hU #[]⟩
theorem u_C_where {s0 : State} {D : va_G} {ca : Nat → ClassId} {e0 : Nat} (Z : cr_Z0 s0 D ca e0) : ∀ V, cr_W0 s0 V → (cw_C_where).before #[] V = true ∧ (Cond.initialized (y_C_where).cls).before #[] V = true := fun V hU => ⟨cr_w Z w_782 rfl hU #[], cr_w Z w_1 rfl hU #[]⟩
theorem u_C_inside {s0 : State} {D : va_G} {ca : Nat → ClassId} {e0 : Nat} (Z : cr_Z0 s0 D ca e0) : ∀ V, cr_W0 s0 V → (cw_C_inside).before #[] V = true ∧ (Cond.initialized (y_C_inside).cls).before #[] V = true := fun V hU => ⟨cr_w Z w_789 rfl hU #[], cr_w Z w_1 rfl hU #[]⟩
theorem u_C_muster {s0 : State} {D : va_G} {ca : Nat → ClassId} {e0 : Nat} (Z : cr_Z0 s0 D ca e0) : ∀ V, cr_W0 s0 V → (cw_C_muster).before #[] V = true ∧ (Cond.initialized (y_C_muster).cls).before #[] V = true := fun V hU => ⟨cr_w Z w_796 rfl hU #[], cr_w Z w_1 rfl hU #[]⟩
theorem u_C_found {s0 : State} {D : va_G} {ca : Nat → ClassId} {e0 : Nat} (Z : cr_Z0 s0 D ca e0) : ∀ V, cr_W0 s0 V → (cw_C_found).before #[] V = true ∧ (Cond.initialized (y_C_found).cls).before #[] V = true := fun V hU => ⟨cr_w Z w_804 rfl hU #[], cr_w Z w_1 rfl hU #[]⟩
theorem u_Fi_keptCount {s0 : State} {D : va_G} {ca : Nat → ClassId} {e0 : Nat} (Z : cr_Z0 s0 D ca e0) : ∀ V, cr_W0 s0 V → (cw_Fi_keptCount).before #[] V = true ∧ (Cond.initialized (y_Fi_keptCount).cls).before #[] V = true := fun V hU => ⟨cr_w Z w_808 rfl hU #[], cr_w Z w_7 rfl hU #[]⟩
theorem u_M_init {s0 : State} {D : va_G} {ca : Nat → ClassId} {e0 : Nat} (Z : cr_Z0 s0 D ca e0) : ∀ V, cr_W0 s0 V → (cw_M_init).before #[] V = true ∧ (Cond.initialized (y_M_init).cls).before #[] V = true := fun V hU => ⟨cr_w Z w_816 rfl hU #[], cr_w Z w_10 rfl hU #[]⟩
theorem u_M_thrown {s0 : State} {D : va_G} {ca : Nat → ClassId} {e0 : Nat} (Z : cr_Z0 s0 D ca e0) : ∀ V, cr_W0 s0 V → (cw_M_thrown).before #[] V = true ∧ (Cond.initialized (y_M_thrown).cls).before #[] V = true := fun V hU => ⟨cr_w Z w_947 rfl hU #[], cr_w Z w_10 rfl hU #[]⟩
theorem u_M_room {s0 : State} {D : va_G} {ca : Nat → ClassId} {e0 : Nat} (Z : cr_Z0 s0 D ca e0) : ∀ V, cr_W0 s0 V → (cw_M_room).before #[] V = true ∧ (Cond.initialized (y_M_room).cls).before #[] V = true := fun V hU => ⟨cr_w Z w_951 rfl hU #[], cr_w Z w_10 rfl hU #[]⟩
theorem u_M_isIn {s0 : State} {D : va_G} {ca : Nat → ClassId} {e0 : Nat} (Z : cr_Z0 s0 D ca e0) : ∀ V, cr_W0 s0 V → (cw_M_isIn).before #[] V = true ∧ (Cond.initialized (y_M_isIn).cls).before #[] V = true := fun V hU => ⟨cr_w Z w_954 rfl hU #[], cr_w Z w_10 rfl hU #[]⟩
theorem u_M_goes {s0 : State} {D : va_G} {ca : Nat → ClassId} {e0 : Nat} (Z : cr_Z0 s0 D ca e0) : ∀ V, cr_W0 s0 V → (cw_M_goes).before #[] V = true ∧ (Cond.initialized (y_M_goes).cls).before #[] V = true := fun V hU => ⟨cr_w Z w_958 rfl hU #[], cr_w Z w_10 rfl hU #[]⟩
theorem u_M_door {s0 : State} {D : va_G} {ca : Nat → ClassId} {e0 : Nat} (Z : cr_Z0 s0 D ca e0) : ∀ V, cr_W0 s0 V → (cw_M_door).before #[] V = true ∧ (Cond.initialized (y_M_door).cls).before #[] V = true := fun V hU => ⟨cr_w Z w_962 rfl hU #[], cr_w Z w_10 rfl hU #[]⟩
theorem u_M_person {s0 : State} {D : va_G} {ca : Nat → ClassId} {e0 : Nat} (Z : cr_Z0 s0 D ca e0) : ∀ V, cr_W0 s0 V → (cw_M_person).before #[] V = true ∧ (Cond.initialized (y_M_person).cls).before #[] V = true := fun V hU => ⟨cr_w Z w_966 rfl hU #[], cr_w Z w_10 rfl hU #[]⟩
theorem u_M_card {s0 : State} {D : va_G} {ca : Nat → ClassId} {e0 : Nat} (Z : cr_Z0 s0 D ca e0) : ∀ V, cr_W0 s0 V → (cw_M_card).before #[] V = true ∧ (Cond.initialized (y_M_card).cls).before #[] V = true := fun V hU => ⟨cr_w Z w_970 rfl hU #[], cr_w Z w_10 rfl hU #[]⟩
theorem u_M_isMinute {s0 : State} {D : va_G} {ca : Nat → ClassId} {e0 : Nat} (Z : cr_Z0 s0 D ca e0) : ∀ V, cr_W0 s0 V → (cw_M_isMinute).before #[] V = true ∧ (Cond.initialized (y_M_isMinute).cls).before #[] V = true := fun V hU => ⟨cr_w Z w_973 rfl hU #[], cr_w Z w_10 rfl hU #[]⟩
theorem u_M_tell {s0 : State} {D : va_G} {ca : Nat → ClassId} {e0 : Nat} (Z : cr_Z0 s0 D ca e0) : ∀ V, cr_W0 s0 V → (cw_M_tell).before #[] V = true ∧ (Cond.initialized (y_M_tell).cls).before #[] V = true := fun V hU => ⟨cr_w Z w_978 rfl hU #[], cr_w Z w_10 rfl hU #[]⟩
theorem u_M_right {s0 : State} {D : va_G} {ca : Nat → ClassId} {e0 : Nat} (Z : cr_Z0 s0 D ca e0) : ∀ V, cr_W0 s0 V → (cw_M_right).before #[] V = true ∧ (Cond.initialized (y_M_right).cls).before #[] V = true := fun V hU => ⟨cr_w Z w_982 rfl hU #[], cr_w Z w_10 rfl hU #[]⟩
theorem u_M_end {s0 : State} {D : va_G} {ca : Nat → ClassId} {e0 : Nat} (Z : cr_Z0 s0 D ca e0) : ∀ V, cr_W0 s0 V → (cw_M_end).before #[] V = true ∧ (Cond.initialized (y_M_end).cls).before #[] V = true := fun V hU => ⟨cr_w Z w_986 rfl hU #[], cr_w Z w_10 rfl hU #[]⟩
theorem u_M_told {s0 : State} {D : va_G} {ca : Nat → ClassId} {e0 : Nat} (Z : cr_Z0 s0 D ca e0) : ∀ V, cr_W0 s0 V → (cw_M_told).before #[] V = true ∧ (Cond.initialized (y_M_told).cls).before #[] V = true := fun V hU => ⟨cr_w Z w_990 rfl hU #[], cr_w Z w_10 rfl hU #[]⟩
theorem u_M_lost {s0 : State} {D : va_G} {ca : Nat → ClassId} {e0 : Nat} (Z : cr_Z0 s0 D ca e0) : ∀ V, cr_W0 s0 V → (cw_M_lost).before #[] V = true ∧ (Cond.initialized (y_M_lost).cls).before #[] V = true := fun V hU => ⟨cr_w Z w_994 rfl hU #[], cr_w Z w_10 rfl hU #[]⟩
theorem u_M_two {s0 : State} {D : va_G} {ca : Nat → ClassId} {e0 : Nat} (Z : cr_Z0 s0 D ca e0) : ∀ V, cr_W0 s0 V → (cw_M_two).before #[] V = true ∧ (Cond.initialized (y_M_two).cls).before #[] V = true := fun V hU => ⟨cr_w Z w_998 rfl hU #[], cr_w Z w_10 rfl hU #[]⟩
theorem u_M_airlock {s0 : State} {D : va_G} {ca : Nat → ClassId} {e0 : Nat} (Z : cr_Z0 s0 D ca e0) : ∀ V, cr_W0 s0 V → (cw_M_airlock).before #[] V = true ∧ (Cond.initialized (y_M_airlock).cls).before #[] V = true := fun V hU => ⟨cr_w Z w_1002 rfl hU #[], cr_w Z w_10 rfl hU #[]⟩
theorem u_M_state {s0 : State} {D : va_G} {ca : Nat → ClassId} {e0 : Nat} (Z : cr_Z0 s0 D ca e0) : ∀ V, cr_W0 s0 V → (cw_M_state).before #[] V = true ∧ (Cond.initialized (y_M_state).cls).before #[] V = true := fun V hU => ⟨cr_w Z w_1006 rfl hU #[], cr_w Z w_10 rfl hU #[]⟩
theorem u_M_isLater {s0 : State} {D : va_G} {ca : Nat → ClassId} {e0 : Nat} (Z : cr_Z0 s0 D ca e0) : ∀ V, cr_W0 s0 V → (cw_M_isLater).before #[] V = true ∧ (Cond.initialized (y_M_isLater).cls).before #[] V = true := fun V hU => ⟨cr_w Z w_1010 rfl hU #[], cr_w Z w_10 rfl hU #[]⟩
theorem u_M_asks {s0 : State} {D : va_G} {ca : Nat → ClassId} {e0 : Nat} (Z : cr_Z0 s0 D ca e0) : ∀ V, cr_W0 s0 V → (cw_M_asks).before #[] V = true ∧ (Cond.initialized (y_M_asks).cls).before #[] V = true := fun V hU => ⟨cr_w Z w_1014 rfl hU #[], cr_w Z w_10 rfl hU #[]⟩
theorem u_M_isOf {s0 : State} {D : va_G} {ca : Nat → ClassId} {e0 : Nat} (Z : cr_Z0 s0 D ca e0) : ∀ V, cr_W0 s0 V → (cw_M_isOf).before #[] V = true ∧ (Cond.initialized (y_M_isOf).cls).before #[] V = true := fun V hU => ⟨cr_w Z w_1018 rfl hU #[], cr_w Z w_10 rfl hU #[]⟩
theorem u_M_refused {s0 : State} {D : va_G} {ca : Nat → ClassId} {e0 : Nat} (Z : cr_Z0 s0 D ca e0) : ∀ V, cr_W0 s0 V → (cw_M_refused).before #[] V = true ∧ (Cond.initialized (y_M_refused).cls).before #[] V = true := fun V hU => ⟨cr_w Z w_1022 rfl hU #[], cr_w Z w_10 rfl hU #[]⟩
theorem u_M_why {s0 : State} {D : va_G} {ca : Nat → ClassId} {e0 : Nat} (Z : cr_Z0 s0 D ca e0) : ∀ V, cr_W0 s0 V → (cw_M_why).before #[] V = true ∧ (Cond.initialized (y_M_why).cls).before #[] V = true := fun V hU => ⟨cr_w Z w_1026 rfl hU #[], cr_w Z w_10 rfl hU #[]⟩
theorem u_M_spans {s0 : State} {D : va_G} {ca : Nat → ClassId} {e0 : Nat} (Z : cr_Z0 s0 D ca e0) : ∀ V, cr_W0 s0 V → (cw_M_spans).before #[] V = true ∧ (Cond.initialized (y_M_spans).cls).before #[] V = true := fun V hU => ⟨cr_w Z w_1030 rfl hU #[], cr_w Z w_10 rfl hU #[]⟩
theorem u_M_let {s0 : State} {D : va_G} {ca : Nat → ClassId} {e0 : Nat} (Z : cr_Z0 s0 D ca e0) : ∀ V, cr_W0 s0 V → (cw_M_let).before #[] V = true ∧ (Cond.initialized (y_M_let).cls).before #[] V = true := fun V hU => ⟨cr_w Z w_1034 rfl hU #[], cr_w Z w_10 rfl hU #[]⟩
theorem u_M_both {s0 : State} {D : va_G} {ca : Nat → ClassId} {e0 : Nat} (Z : cr_Z0 s0 D ca e0) : ∀ V, cr_W0 s0 V → (cw_M_both).before #[] V = true ∧ (Cond.initialized (y_M_both).cls).before #[] V = true := fun V hU => ⟨cr_w Z w_1038 rfl hU #[], cr_w Z w_10 rfl hU #[]⟩
theorem u_M_off {s0 : State} {D : va_G} {ca : Nat → ClassId} {e0 : Nat} (Z : cr_Z0 s0 D ca e0) : ∀ V, cr_W0 s0 V → (cw_M_off).before #[] V = true ∧ (Cond.initialized (y_M_off).cls).before #[] V = true := fun V hU => ⟨cr_w Z w_1042 rfl hU #[], cr_w Z w_10 rfl hU #[]⟩
theorem u_M_where {s0 : State} {D : va_G} {ca : Nat → ClassId} {e0 : Nat} (Z : cr_Z0 s0 D ca e0) : ∀ V, cr_W0 s0 V → (cw_M_where).before #[] V = true ∧ (Cond.initialized (y_M_where).cls).before #[] V = true := fun V hU => ⟨cr_w Z w_1046 rfl hU #[], cr_w Z w_10 rfl hU #[]⟩
theorem u_M_inside {s0 : State} {D : va_G} {ca : Nat → ClassId} {e0 : Nat} (Z : cr_Z0 s0 D ca e0) : ∀ V, cr_W0 s0 V → (cw_M_inside).before #[] V = true ∧ (Cond.initialized (y_M_inside).cls).before #[] V = true := fun V hU => ⟨cr_w Z w_1050 rfl hU #[], cr_w Z w_10 rfl hU #[]⟩
theorem u_M_muster {s0 : State} {D : va_G} {ca : Nat → ClassId} {e0 : Nat} (Z : cr_Z0 s0 D ca e0) : ∀ V, cr_W0 s0 V → (cw_M_muster).before #[] V = true ∧ (Cond.initialized (y_M_muster).cls).before #[] V = true := fun V hU => ⟨cr_w Z w_1054 rfl hU #[], cr_w Z w_10 rfl hU #[]⟩
theorem u_M_against {s0 : State} {D : va_G} {ca : Nat → ClassId} {e0 : Nat} (Z : cr_Z0 s0 D ca e0) : ∀ V, cr_W0 s0 V → (cw_M_against).before #[] V = true ∧ (Cond.initialized (y_M_against).cls).before #[] V = true := fun V hU => ⟨cr_w Z w_1058 rfl hU #[], cr_w Z w_10 rfl hU #[]⟩
theorem u_M_found {s0 : State} {D : va_G} {ca : Nat → ClassId} {e0 : Nat} (Z : cr_Z0 s0 D ca e0) : ∀ V, cr_W0 s0 V → (cw_M_found).before #[] V = true ∧ (Cond.initialized (y_M_found).cls).before #[] V = true := fun V hU => ⟨cr_w Z w_1062 rfl hU #[], cr_w Z w_10 rfl hU #[]⟩
theorem u_M_uses {s0 : State} {D : va_G} {ca : Nat → ClassId} {e0 : Nat} (Z : cr_Z0 s0 D ca e0) : ∀ V, cr_W0 s0 V → (cw_M_uses).before #[] V = true ∧ (Cond.initialized (y_M_uses).cls).before #[] V = true := fun V hU => ⟨cr_w Z w_1066 rfl hU #[], cr_w Z w_10 rfl hU #[]⟩
theorem u_M_fewest {s0 : State} {D : va_G} {ca : Nat → ClassId} {e0 : Nat} (Z : cr_Z0 s0 D ca e0) : ∀ V, cr_W0 s0 V → (cw_M_fewest).before #[] V = true ∧ (Cond.initialized (y_M_fewest).cls).before #[] V = true := fun V hU => ⟨cr_w Z w_1070 rfl hU #[], cr_w Z w_10 rfl hU #[]⟩
theorem u_M_count {s0 : State} {D : va_G} {ca : Nat → ClassId} {e0 : Nat} (Z : cr_Z0 s0 D ca e0) : ∀ V, cr_W0 s0 V → (cw_M_count).before #[] V = true ∧ (Cond.initialized (y_M_count).cls).before #[] V = true := fun V hU => ⟨cr_w Z w_1073 rfl hU #[], cr_w Z w_10 rfl hU #[]⟩
theorem u_M_meets {s0 : State} {D : va_G} {ca : Nat → ClassId} {e0 : Nat} (Z : cr_Z0 s0 D ca e0) : ∀ V, cr_W0 s0 V → (cw_M_meets).before #[] V = true ∧ (Cond.initialized (y_M_meets).cls).before #[] V = true := fun V hU => ⟨cr_w Z w_1077 rfl hU #[], cr_w Z w_10 rfl hU #[]⟩
theorem u_M_now {s0 : State} {D : va_G} {ca : Nat → ClassId} {e0 : Nat} (Z : cr_Z0 s0 D ca e0) : ∀ V, cr_W0 s0 V → (cw_M_now).before #[] V = true ∧ (Cond.initialized (y_M_now).cls).before #[] V = true := fun V hU => ⟨cr_w Z w_1081 rfl hU #[], cr_w Z w_10 rfl hU #[]⟩
def cs_obj : List Nat := [8, 2, 6, 1, 7, 9]
theorem cs_obj_ok {s0 V : State} {D : va_G} {ca : Nat → ClassId} {e0 : Nat} (Z : cr_Z0 s0 D ca e0) (hU : cr_W0 s0 V) (args : Array Value) : ∀ ci ∈ cs_obj, ∃ r, kc[ci]? = some r ∧ (Cond.castable r.1 "java/lang/Object").before args V = true := by
  unfold cs_obj
  refine List.forall_mem_cons.mpr ⟨⟨_, rfl, cr_w Z w_1098 rfl hU args⟩, ?_⟩
  refine List.forall_mem_cons.mpr ⟨⟨_, rfl, cr_w Z w_1099 rfl hU args⟩, ?_⟩
  refine List.forall_mem_cons.mpr ⟨⟨_, rfl, cr_w Z w_1100 rfl hU args⟩, ?_⟩
  refine List.forall_mem_cons.mpr ⟨⟨_, rfl, cr_w Z w_1101 rfl hU args⟩, ?_⟩
  refine List.forall_mem_cons.mpr ⟨⟨_, rfl, cr_w Z w_1102 rfl hU args⟩, ?_⟩
  refine List.forall_mem_cons.mpr ⟨⟨_, rfl, cr_w Z w_1103 rfl hU args⟩, ?_⟩
  exact fun _ h => absurd h List.not_mem_nil
end
section
/-! THE LIGHT MACHINE, more of it: what lies below lo (statics, the lists' empty array), arrays of booleans, arraycopy, the program's own throws -/
/-- below the law's first heap nothing has changed -/
def cr_Old (s0 : State) (H : Heap) : Prop := ∀ q : Nat, q < s0.heap.size → H[q]? = s0.heap[q]?
theorem cr_wo {s0 V : State} {D : va_G} {ca : Nat → ClassId} {e0 : Nat} (Z : cr_Z0 s0 D ca e0) (hU : cr_W0 s0 V) (args : Array Value) : (Cond.arrayOver (.object "java/lang/Object")).before args V = true := by
  obtain ⟨⟨a0, h⟩, -⟩ := Z
  exact va_AO.use (va_AO.moved hU.alike (va_AO.of (h _ wn_over)))
section CR7
variable {p : Program} {l : Launch} {e : Env} {R : Room} {s : State} {m : MethodId} {args : Array Value} {below : List Frame} {meth : Method} {c : Code} {lo mc ms d : Nat} {Q : cr_Q}
variable {cc : ByteArray} {pc nx : Nat} {D : va_G} {cl : List vw_C} {tys : List (ClassId × FieldType)} {s0 : State} {ca : Nat → ClassId} {e0 : Nat} {own : String} {index : Nat}
def cr_gets (s0 : State) (e0 nx : Nat) : cr_T := fun K _ lv st H k n => cr_Old s0 H ∧ K nx lv (.ref e0 :: st) H k n
theorem cr_gets_ok (hx : p.tables.exec = Jvm.exec) (hb : c.code = cc) (hown : s.vm.findClass own = some m.cls) (Z : cr_Z0 s0 D ca e0) (hU : cr_W0 s0 s) (hlink : (Cond.fieldLink own index "java/util/ArrayList" "DEFAULTCAPACITY_EMPTY_ELEMENTDATA" "[Ljava/lang/Object;").before args s = true) (hd : decode cc pc = .ok (.getstatic index, 3)) (hn : pc + 3 = nx) : cr_Snd p l e R s m args below meth c lo mc ms Q pc (cr_gets s0 e0 nx) := by
  subst hn
  intro K lv st H k n hK h ls locs hl hq
  obtain ⟨cf, kf, fi, f, a, cell, h1, h2, h3, h4, h5, h6, h7, h8⟩ := va_Z.moved hU.alike Z.2.2.1
  refine W.gets hx hb hown hlink h1 h2 h3 h4 (by rw [h.1 a (Array.getElem?_eq_some_iff.mp h5).1]; exact h5) (fun e => by rw [e] at h6; cases h6) h7 rfl hd ?_
  exact hK _ _ _ _ _ _ h.2 ls locs hl hq
def cr_aleE (s0 : State) (D : va_G) (cl : List vw_C) (cA : ClassId) (e0 nx : Nat) : cr_T := fun K _ lv st H k n => match st with
  | .ref a :: r => (∃ x : vp_A, va_at D cl (a, .inl (cA, x)) H ∧ K nx lv (.int (nI x.1) :: r) H k n) ∨ (a = e0 ∧ cr_Old s0 H ∧ K nx lv (.int 0 :: r) H k n)
  | _ => False
theorem cr_aleE_ok {cA : ClassId} {ty : FieldType} {t0 : Nat} (hx : p.tables.exec = Jvm.exec) (hb : c.code = cc) (hK : va_K D cl tys s) (ht : tys[t0]? = some (cA, ty)) (Z : cr_Z0 s0 D ca e0) (hU : cr_W0 s0 s) (hd : decode cc pc = .ok (.arraylength, 1)) (hn : pc + 1 = nx) : cr_Snd p l e R s m args below meth c lo mc ms Q pc (cr_aleE s0 D cl cA e0 nx) := by
  subst hn
  intro K lv st H k n hKK h ls locs hl hq
  match st, h with
  | .ref a :: r, Or.inl ⟨x, h1, h2⟩ => exact va_alen hx hb hK (cr_one h1) 0 t0 rfl ht rfl hd (hKK _ _ _ _ _ _ h2 ls locs hl hq)
  | .ref a :: r, Or.inr ⟨ha, hold, h2⟩ =>
    subst ha
    obtain ⟨cell, g1, g2, g3, g4, g5, -⟩ := va_T.moved hU.alike Z.2.2.2.1
    exact W.alen (n := 0) hx hb (by rw [hold a (Array.getElem?_eq_some_iff.mp g1).1]; exact g1) g2 g5 rfl rfl hd (hKK _ _ _ _ _ _ h2 ls locs hl hq)
-- arrays of booleans
def cr_zald (D : va_G) (cl : List vw_C) (cA : ClassId) (nx : Nat) : cr_T := fun K _ lv st H k n => match st with
  | .int i :: .ref a :: r => ∃ N f j, va_at D cl (a, .inl (cA, N, .inl f)) H ∧ i = nI j ∧ j < N ∧ N < 2 ^ 31 ∧ K nx lv (.int (f j) :: r) H k n
  | _ => False
theorem cr_zald_ok {cA : ClassId} {t0 : Nat} (hx : p.tables.exec = Jvm.exec) (hb : c.code = cc) (hK : va_K D cl tys s) (ht : tys[t0]? = some (cA, .boolean)) (hd : decode cc pc = .ok (.baload, 1)) (hn : pc + 1 = nx) : cr_Snd p l e R s m args below meth c lo mc ms Q pc (cr_zald D cl cA nx) := by
  subst hn
  intro K lv st H k n hKK h ls locs hl hq
  match st, h with
  | .int i :: .ref a :: r, ⟨N, f, j, h1, h2, h3, h4, h5⟩ =>
    subst h2
    refine va_zald hx hb hK (cr_one h1) 0 t0 rfl ht (vp_in_nI h3 h4) hd ?_
    rw [nI_clamp (by omega)]
    exact hKK _ _ _ _ _ _ h5 ls locs hl hq
def cr_zast (D : va_G) (cl : List vw_C) (lo : Nat) (cA : ClassId) (nx : Nat) : cr_T := fun K _ lv st H k n => match st with
  | .int x :: .int i :: .ref a :: r => ∃ N f j, va_at D cl (a, .inl (cA, N, .inl f)) H ∧ lo ≤ a ∧ i = nI j ∧ j < N ∧ N < 2 ^ 31 ∧ (x = 0 ∨ x = 1) ∧ ∀ H', cr_Up D cl H a (.inl (cA, N, .inl (upd f j x))) H' → K nx lv r H' k n
  | _ => False
theorem cr_zast_ok {cA : ClassId} {t0 : Nat} (hx : p.tables.exec = Jvm.exec) (hb : c.code = cc) (hK : va_K D cl tys s) (ht : tys[t0]? = some (cA, .boolean)) (hd : decode cc pc = .ok (.bastore, 1)) (hn : pc + 1 = nx) : cr_Snd p l e R s m args below meth c lo mc ms Q pc (cr_zast D cl lo cA nx) := by
  subst hn
  intro K lv st H k n hKK h ls locs hl hq
  match st, h with
  | .int x :: .int i :: .ref a :: r, ⟨N, f, j, h1, ha, h2, h3, h4, hb01, h5⟩ =>
    subst h2
    have hnar : narrow .boolean (.int x) = .int x := by rcases hb01 with rfl | rfl <;> decide
    refine cr_W_old (cell := vp_cell _ _) h1 rfl (fun hold => ?_)
    refine W.zast hx hb h1 ((hK.2 t0 _ ht).1 N (fun j => .int (f j))) (fun q => by cases q) (by show ¬ (nI j < 0 ∨ (arrV _ _ _).slots.size ≤ _); rw [arrV_size]; exact vp_in_nI h3 h4) rfl rfl hd fun H1 e z oq => ?_
    refine hKK _ _ _ _ _ _ (h5 H1 ⟨z, ?_, oq⟩) ls _ hl (cr_locs1 hq ⟨ha, hold⟩)
    show H1[a]? = some (vp_cell _ _)
    rw [e, nI_clamp (by omega), hnar]
    rw [vp_cell_i, vp_cell_i, arrV_store]
    congr 2
    funext q
    by_cases hq : q = j
    · subst hq
      simp [updV, upd]
    · simp [updV, upd, hq]
/-- System.arraycopy of ints -/
def cr_copyi (s0 : State) (D : va_G) (cl : List vw_C) (d : Nat) (cA : ClassId) (nL nx : Nat) : cr_T := fun K _ lv st H k n => match st with
  | .int z :: .int dp :: .ref a :: .int sp :: .ref a0 :: r => lv.length = nL ∧ 2 ≤ d ∧ (r.map fun v => v.category).sum ≤ 8 ∧ ∃ N0 N1 f g i j w, va_at D cl (a0, .inl (cA, N0, .inl f)) H ∧ va_at D cl (a, .inl (cA, N1, .inl g)) H ∧ s0.heap.size ≤ a ∧ sp = nI i ∧ dp = nI j ∧ z = nI w ∧ i + w ≤ N0 ∧ j + w ≤ N1 ∧ N0 < 2 ^ 31 ∧ N1 < 2 ^ 31 ∧ ∀ H', cr_Up D cl H a (.inl (cA, N1, .inl (va_cpy f g i j w))) H' → K nx lv r H' k n
  | _ => False
theorem cr_copyi_ok {cA : ClassId} {t0 nL : Nat} (hx : p.tables.exec = Jvm.exec) (hb : c.code = cc) (hml : c.maxLocals = nL) (hown : s.vm.findClass own = some m.cls) (hK : va_K D kc tys s) (Z : cr_Z0 s0 D ca e0) (hU : cr_W0 s0 s) (hR : R = cr_rm d mc ms) (ht : tys[t0]? = some (cA, .int)) (hlink : (Cond.methodLink own index arraycopyName).before args s = true) (hd : decode cc pc = .ok (.invokestatic index, 3)) (hn : pc + 3 = nx) : cr_Snd p l e R s m args below meth c s0.heap.size mc ms Q pc (cr_copyi s0 D kc d cA nL nx) := by
  subst hn
  intro K lv st H k n hKK h ls locs hl hq
  match st, h with
  | .int z :: .int dp :: .ref a :: .int sp :: .ref a0 :: r, ⟨hnL, hd2, hcat, N0, N1, f, g, i, j, w, hc0, hc1, ha, e1, e2, e3, h4, h5, h6, h7, h8⟩ =>
    subst e1; subst e2; subst e3
    have hc0' : H[a0]? = some (vp_cell cA (N0, .inl f)) := hc0
    have hc1' : H[a]? = some (vp_cell cA (N1, .inl g)) := hc1
    refine cr_W_old hc1' rfl (fun hold => ?_)
    intro T hT X
    obtain ⟨-, k0, hk0, cm0, hkk0⟩ := (hK.2 t0 _ ht).1 N0 (fun j => .int (f j))
    obtain ⟨-, k1, hk1, cm1, hkk1⟩ := (hK.2 t0 _ ht).1 N1 (fun j => .int (g j))
    have ti : ∀ y : Nat, y < 2 ^ 31 → (nI y).toInt = (y : Int) := fun y hy => nI_toInt hy
    have eci := nI_clamp (n := i) (by omega)
    have ecj := nI_clamp (n := j) (by omega)
    have ecw := nI_clamp (n := w) (by omega)
    obtain ⟨vm', X', step⟩ := X.arraycopy hx hown hlink (cr_w Z wn_cpN rfl hU args) (cr_w Z wn_cpS rfl hU args) (cr_w Z wn_sys rfl hU args) (src := a0) (dst := a) (cs := vp_cell cA (N0, .inl f)) (cd := vp_cell cA (N1, .inl g)) (srcPos := nI i) (destPos := nI j) (n := nI w) (by rw [hT]; exact hc0') (by rw [hT]; exact hc1')
      (fun _ h => by cases h) (fun _ h => by cases h) (fun h => by cases h) (fun h => by cases h) hk0 hk1 hkk0 hkk1 (by show (refKind FieldType.int != refKind FieldType.int || !refKind FieldType.int && FieldType.int != FieldType.int) = false; decide) (nI_pos (by omega)) (nI_pos (by omega)) (nI_pos (by omega))
      (by rw [ti i (by omega), ti w (by omega)]; show ¬ _ > ((arrV cA N0 (fun j => .int (f j))).slots.size : Int); rw [arrV_size]; omega)
      (by rw [ti j (by omega), ti w (by omega)]; show ¬ _ > ((arrV cA N1 (fun j => .int (g j))).slots.size : Int); rw [arrV_size]; omega)
      (fun vm₁ _ i9 hi9 => by
        rw [ecw] at hi9
        have e : (vp_cell cA (N0, .inl f)).slots.getD ((nI i).toNatClampNeg + i9) .null = .int (f (i + i9)) := by
          show (arrV cA N0 (fun j => .int (f j))).slots.getD _ _ = _
          rw [eci, Array.getD_eq_getD_getElem?, arrV_read _ _ (by omega)]
          rfl
        refine ⟨?_, ?_⟩
        · rw [e]
          rfl
        · rw [e]
          exact trivial)
      (g := F0 m pc ls (.int (nI w) :: .int (nI j) :: .ref a :: .int (nI i) :: .ref a0 :: r)) rfl (by rw [hml, ← hnL]; exact hl.1) (rest := r) rfl (by rw [hb]; exact hd) (by rw [hR]; show 1 ≤ d; omega) (by rw [hR]; show 2 * 0 + _ + (5 + 2 + 11) ≤ 60 * d; omega)
    have e1 : copied (vp_cell cA (N0, .inl f)) (vp_cell cA (N1, .inl g)) (nI i) (nI j) (nI w) = vp_cell cA (N1, .inl (va_cpy f g i j w)) := by
      have h9 := va_copied (fun z => .int z) cA cA (n0 := N0) (n1 := N1) (sp := i) (dp := j) (n := w) f g h4
      unfold copied
      rw [eci, ecj, ecw]
      exact h9
    rw [e1] at X' step
    have hlt : a < H.size := (Array.getElem?_eq_some_iff.mp hc1').1
    have hheap : ((T.setVm vm').setCell a (vp_cell cA (N1, .inl (va_cpy f g i j w)))).heap = H.setIfInBounds a (vp_cell cA (N1, .inl (va_cpy f g i j w))) := by rw [← hT]; rfl
    have oq : ∀ q : Nat, q ≠ a → (H.setIfInBounds a (vp_cell cA (N1, .inl (va_cpy f g i j w))))[q]? = H[q]? := fun q hq => by simp [Array.getElem?_setIfInBounds, Ne.symm hq]
    obtain ⟨t, a1, b1⟩ := hKK _ _ _ _ _ _ (h8 _ ⟨by simp, show (H.setIfInBounds a _)[a]? = some _ by simp [Array.getElem?_setIfInBounds, hlt], oq⟩) ls _ hl (fun q hq9 => by
      rcases List.mem_append.mp hq9 with h | h
      · exact hq q h
      · obtain ⟨z, -, hz⟩ := List.mem_map.mp h
        rw [← hz]
        exact ⟨ha, hold⟩) _ hheap X'
    exact ⟨t, step t a1, b1⟩
/-- System.arraycopy of references to Objects -/
def cr_copyq (s0 : State) (D : va_G) (cl : List vw_C) (d : Nat) (cA : ClassId) (cs : List Nat) (nL nx : Nat) : cr_T := fun K _ lv st H k n => match st with
  | .int z :: .int dp :: .ref a :: .int sp :: .ref a0 :: r => lv.length = nL ∧ 2 ≤ d ∧ (r.map fun v => v.category).sum ≤ 8 ∧ ∃ N0 N1 f g i j w, va_at D cl (a0, .inl (cA, N0, .inr (.inr (.inr (.inr f))))) H ∧ va_at D cl (a, .inl (cA, N1, .inr (.inr (.inr (.inr g))))) H ∧ s0.heap.size ≤ a ∧ sp = nI i ∧ dp = nI j ∧ z = nI w ∧ i + w ≤ N0 ∧ j + w ≤ N1 ∧ N0 < 2 ^ 31 ∧ N1 < 2 ^ 31 ∧ (∀ i9 y, i9 < w → f (i + i9) = some y → ∃ ci fs, ci ∈ cs ∧ va_at D cl (y, .inr (ci, fs)) H) ∧ ∀ H', cr_Up D cl H a (.inl (cA, N1, .inr (.inr (.inr (.inr (va_cpy f g i j w)))))) H' → K nx lv r H' k n
  | _ => False
theorem cr_copyq_ok {cA : ClassId} {t0 nL : Nat} {C : String} {cs : List Nat} (hx : p.tables.exec = Jvm.exec) (hb : c.code = cc) (hml : c.maxLocals = nL) (hown : s.vm.findClass own = some m.cls) (hK : va_K D kc tys s) (Z : cr_Z0 s0 D ca e0) (hU : cr_W0 s0 s) (hR : R = cr_rm d mc ms) (ht : tys[t0]? = some (cA, .object C)) (hcast : ∀ ci ∈ cs, ∃ r, kc[ci]? = some r ∧ (Cond.castable r.1 C).before args s = true) (hlink : (Cond.methodLink own index arraycopyName).before args s = true) (hd : decode cc pc = .ok (.invokestatic index, 3)) (hn : pc + 3 = nx) : cr_Snd p l e R s m args below meth c s0.heap.size mc ms Q pc (cr_copyq s0 D kc d cA cs nL nx) := by
  subst hn
  intro K lv st H k n hKK h ls locs hl hq
  match st, h with
  | .int z :: .int dp :: .ref a :: .int sp :: .ref a0 :: r, ⟨hnL, hd2, hcat, N0, N1, f, g, i, j, w, hc0, hc1, ha, e1, e2, e3, h4, h5, h6, h7, hel, h8⟩ =>
    subst e1; subst e2; subst e3
    have hc0' : H[a0]? = some (vp_cell cA (N0, .inr (.inr (.inr (.inr f))))) := hc0
    have hc1' : H[a]? = some (vp_cell cA (N1, .inr (.inr (.inr (.inr g))))) := hc1
    refine cr_W_old hc1' rfl (fun hold => ?_)
    intro T hT X
    obtain ⟨-, k0, hk0, cm0, hkk0⟩ := (hK.2 t0 _ ht).1 N0 (fun j => va_rf (f j))
    obtain ⟨-, k1, hk1, cm1, hkk1⟩ := (hK.2 t0 _ ht).1 N1 (fun j => va_rf (g j))
    have ti : ∀ y : Nat, y < 2 ^ 31 → (nI y).toInt = (y : Int) := fun y hy => nI_toInt hy
    have eci := nI_clamp (n := i) (by omega)
    have ecj := nI_clamp (n := j) (by omega)
    have ecw := nI_clamp (n := w) (by omega)
    obtain ⟨vm', X', step⟩ := X.arraycopy hx hown hlink (cr_w Z wn_cpN rfl hU args) (cr_w Z wn_cpS rfl hU args) (cr_w Z wn_sys rfl hU args) (src := a0) (dst := a) (cs := vp_cell cA (N0, .inr (.inr (.inr (.inr f))))) (cd := vp_cell cA (N1, .inr (.inr (.inr (.inr g))))) (srcPos := nI i) (destPos := nI j) (n := nI w) (by rw [hT]; exact hc0') (by rw [hT]; exact hc1')
      (fun _ h => by cases h) (fun _ h => by cases h) (fun h => by cases h) (fun h => by cases h) hk0 hk1 hkk0 hkk1 rfl (nI_pos (by omega)) (nI_pos (by omega)) (nI_pos (by omega))
      (by rw [ti i (by omega), ti w (by omega)]; show ¬ _ > ((arrV cA N0 (fun j => va_rf (f j))).slots.size : Int); rw [arrV_size]; omega)
      (by rw [ti j (by omega), ti w (by omega)]; show ¬ _ > ((arrV cA N1 (fun j => va_rf (g j))).slots.size : Int); rw [arrV_size]; omega)
      (fun vm₁ hal i9 hi9 => by
        rw [ecw] at hi9
        have e : (vp_cell cA (N0, .inr (.inr (.inr (.inr f))))).slots.getD ((nI i).toNatClampNeg + i9) .null = va_rf (f (i + i9)) := by
          show (arrV cA N0 (fun j => va_rf (f j))).slots.getD _ _ = _
          rw [eci, Array.getD_eq_getD_getElem?, arrV_read _ _ (by omega)]
          rfl
        rw [e]
        cases hy : f (i + i9) with
        | none => exact ⟨rfl, trivial⟩
        | some y =>
          obtain ⟨ci, fs, hci, hv⟩ := hel i9 y hi9 hy
          obtain ⟨r0, hr0, hca⟩ := hcast ci hci
          obtain ⟨r9, hr9, cellV, g1, g2, g3, -⟩ := hv
          have er : r9 = r0 := Option.some.inj (hr9.symm.trans hr0)
          subst er
          have hcls := (hK.1 ci _ hr0).2
          obtain ⟨kA, comp, r1, r2, r3, -⟩ := (hK.2 t0 _ ht).2
          cases hk1.symm.trans r1
          cases hkk1.symm.trans r2
          obtain ⟨c0, t9, w1, w2, w3⟩ := Cond.castable_spec hca
          cases hcls.1.symm.trans w1
          cases r3.symm.trans w2
          obtain ⟨kC, hkC, -⟩ := hcls.2
          obtain ⟨kE, hkE, -⟩ := Vm.findClass_spec r3
          obtain ⟨kC', hkC', -⟩ := hal.2.2 _ _ hkC
          obtain ⟨kE', hkE', -⟩ := hal.2.2 _ _ hkE
          refine ⟨rfl, cellV, (show T.heap[y]? = some cellV by rw [hT]; exact g1), (fun q h => by rw [g3] at h; cases h), ⟨kC', by rw [g2]; exact hkC'⟩, ⟨kE', hkE'⟩, ?_⟩
          show vm₁.assignable _ _ = true
          rw [hal.assignable, g2]
          exact w3)
      (g := F0 m pc ls (.int (nI w) :: .int (nI j) :: .ref a :: .int (nI i) :: .ref a0 :: r)) rfl (by rw [hml, ← hnL]; exact hl.1) (rest := r) rfl (by rw [hb]; exact hd) (by rw [hR]; show 1 ≤ d; omega) (by rw [hR]; show 2 * 0 + _ + (5 + 2 + 11) ≤ 60 * d; omega)
    have e1 : copied (vp_cell cA (N0, .inr (.inr (.inr (.inr f))))) (vp_cell cA (N1, .inr (.inr (.inr (.inr g))))) (nI i) (nI j) (nI w) = vp_cell cA (N1, .inr (.inr (.inr (.inr (va_cpy f g i j w))))) := by
      have h9 := va_copied (fun z => va_rf z) cA cA (n0 := N0) (n1 := N1) (sp := i) (dp := j) (n := w) f g h4
      unfold copied
      rw [eci, ecj, ecw]
      exact h9
    rw [e1] at X' step
    have hlt : a < H.size := (Array.getElem?_eq_some_iff.mp hc1').1
    have hheap : ((T.setVm vm').setCell a (vp_cell cA (N1, .inr (.inr (.inr (.inr (va_cpy f g i j w))))))).heap = H.setIfInBounds a (vp_cell cA (N1, .inr (.inr (.inr (.inr (va_cpy f g i j w)))))) := by rw [← hT]; rfl
    have oq : ∀ q : Nat, q ≠ a → (H.setIfInBounds a (vp_cell cA (N1, .inr (.inr (.inr (.inr (va_cpy f g i j w)))))))[q]? = H[q]? := fun q hq => by simp [Array.getElem?_setIfInBounds, Ne.symm hq]
    obtain ⟨t, a1, b1⟩ := hKK _ _ _ _ _ _ (h8 _ ⟨by simp, show (H.setIfInBounds a _)[a]? = some _ by simp [Array.getElem?_setIfInBounds, hlt], oq⟩) ls _ hl (fun q hq9 => by
      rcases List.mem_append.mp hq9 with h | h
      · exact hq q h
      · obtain ⟨z, -, hz⟩ := List.mem_map.mp h
        rw [← hz]
        exact ⟨ha, hold⟩) _ hheap X'
    exact ⟨t, step t a1, b1⟩
/-- the Class object of Object[] -/
def cr_ldcM (s0 : State) (nx : Nat) : cr_T := fun K _ lv st H k n => ∀ mi, va_Mi "[Ljava/lang/Object;" mi s0 → K nx lv (.ref mi :: st) H k n
theorem cr_ldcM_ok (hx : p.tables.exec = Jvm.exec) (hb : c.code = cc) (hown : s.vm.findClass own = some m.cls) (Z : cr_Z0 s0 D ca e0) (hU : cr_W0 s0 s) (hlink : (Cond.classLink own index "[Ljava/lang/Object;").before args s = true) (hd : decode cc pc = .ok (.ldc index, 2)) (hn : pc + 2 = nx) : cr_Snd p l e R s m args below meth c lo mc ms Q pc (cr_ldcM s0 nx) := by
  subst hn
  intro K lv st H k n hKK h ls locs hl hq
  obtain ⟨mi, hM⟩ := Z.2.2.2.2.2.2
  exact va_ldcM hx hb hown hlink (va_Mi.moved hU.alike hM) hd (hKK _ _ _ _ _ _ (h mi hM) ls locs hl hq)
def cr_getC (s0 : State) (D : va_G) (cl : List vw_C) (cA : ClassId) (d nL nx : Nat) : cr_T := fun K _ lv st H k n => match st with
  | .ref a :: r => lv.length = nL ∧ 1 ≤ d ∧ (r.map fun v => v.category).sum ≤ 8 ∧ (∃ x : vp_A, va_at D cl (a, .inl (cA, x)) H) ∧ ∀ mi, va_Mi "[Ljava/lang/Object;" mi s0 → K nx lv (.ref mi :: r) H k n
  | _ => False
theorem cr_vpn (cA : ClassId) (x : vp_A) : (vp_cell cA x).vm = .none ∧ (vp_cell cA x).cls = cA := by
  obtain ⟨n, f | f | f | f | f⟩ := x <;> exact ⟨rfl, rfl⟩
theorem cr_getC_ok {nL : Nat} (hx : p.tables.exec = Jvm.exec) (hb : c.code = cc) (hml : c.maxLocals = nL) (hown : s.vm.findClass own = some m.cls) (hK : va_K D kc (cr_ty ca) s) (Z : cr_Z0 s0 D ca e0) (hU : cr_W0 s0 s) (hR : R = cr_rm d mc ms) (hlink : (Cond.methodLink own index ⟨"java/lang/Object", "getClass", "()Ljava/lang/Class;"⟩).before args s = true) (hdecl : (Cond.declares ⟨"java/lang/Object", "getClass", "()Ljava/lang/Class;"⟩).before args s = true)
    (hsel : (Cond.selects "[Ljava/lang/Object;" ⟨"java/lang/Object", "getClass", "()Ljava/lang/Class;"⟩ ⟨"java/lang/Object", "getClass", "()Ljava/lang/Class;"⟩).before args s = true) (hinst : (Cond.instanceMethod ⟨"java/lang/Object", "getClass", "()Ljava/lang/Class;"⟩).before args s = true) (hnat : (Cond.native ⟨"java/lang/Object", "getClass", "()Ljava/lang/Class;"⟩).before args s = true) (hd : decode cc pc = .ok (.invokevirtual index, 3)) (hn : pc + 3 = nx) : cr_Snd p l e R s m args below meth c lo mc ms Q pc (cr_getC s0 D kc (ca 3) d nL nx) := by
  subst hn
  intro K lv st H k n hKK h ls locs hl hq
  obtain ⟨mi, hM⟩ := Z.2.2.2.2.2.2
  match st, h with
  | .ref a :: r, ⟨hnL, hd1, hcat, ⟨x, hv⟩, h⟩ =>
    exact va_getC hx hb (by rw [hml, ← hnL]; exact hl.1.symm) hown hlink hdecl hsel hinst hnat (va_Mi.moved hU.alike hM) ⟨vp_cell (ca 3) x, hv, by rw [(cr_vpn _ x).1]; rfl, by rw [(cr_vpn _ x).2]; exact cr_fo hK⟩ (by rw [hR]; exact hd1) (by rw [hR]; show _ + 14 ≤ 60 * d; omega) hd (hKK _ _ _ _ _ _ (h mi hM) ls locs hl hq)
theorem cr_Mi_eq {s0 : State} {C : String} {a b : Nat} (h1 : va_Mi C a s0) (h2 : va_Mi C b s0) : a = b := by
  obtain ⟨c1, k1, x1, x2, x3⟩ := h1
  obtain ⟨c2, k2, y1, y2, y3⟩ := h2
  cases x1.symm.trans y1
  cases x2.symm.trans y2
  exact Option.some.inj (x3.symm.trans y3)
def cr_mmax (mc ms d nL nx : Nat) : cr_T := fun K _ lv st H k n => match st with
  | .int y :: .int x :: r => lv.length = nL ∧ 1 ≤ d ∧ (r.map fun v => v.category).sum ≤ 8 ∧ k ≤ mc ∧ n ≤ ms ∧ K nx lv (.int (if x < y then y else x) :: r) H k n
  | _ => False
theorem cr_mmax_ok {nL : Nat} (hx : p.tables.exec = Jvm.exec) (hb : c.code = cc) (hml : c.maxLocals = nL) (hown : s.vm.findClass own = some m.cls) (hR : R = cr_rm d mc ms) (hlink : (Cond.methodLink own index Lib.Math.max.name).before args s = true) (hstat : (Cond.static Lib.Math.max.name).before args s = true) (hini : (Cond.initialized "java/lang/Math").before args s = true) (hcode : (Cond.code Lib.Math.max.name Lib.Math.max.code 2 (some .int)).before args s = true) (hd : decode cc pc = .ok (.invokestatic index, 3)) (hn : pc + 3 = nx) : cr_Snd p l e R s m args below meth c lo mc ms Q pc (cr_mmax mc ms d nL nx) := by
  subst hn
  intro K lv st H k n hKK h ls locs hl hq
  match st, h with
  | .int y :: .int x :: r, ⟨h1, h2, h3, h4, h5, h6⟩ =>
    exact va_mmax hx hb (by rw [hml, ← h1]; exact hl.1.symm) hown hlink hstat hini hcode (by rw [hR]; exact h2) (by rw [hR]; show _ + 13 ≤ 60 * d; omega) (by rw [hR]; exact h4) (by rw [hR]; exact h5) hd (hKK _ _ _ _ _ _ h6 ls locs hl hq)
def cr_mmin (mc ms d nL nx : Nat) : cr_T := fun K _ lv st H k n => match st with
  | .int y :: .int x :: r => lv.length = nL ∧ 1 ≤ d ∧ (r.map fun v => v.category).sum ≤ 8 ∧ k ≤ mc ∧ n ≤ ms ∧ K nx lv (.int (if y < x then y else x) :: r) H k n
  | _ => False
theorem cr_mmin_ok {nL : Nat} (hx : p.tables.exec = Jvm.exec) (hb : c.code = cc) (hml : c.maxLocals = nL) (hown : s.vm.findClass own = some m.cls) (hR : R = cr_rm d mc ms) (hlink : (Cond.methodLink own index Lib.Math.min.name).before args s = true) (hstat : (Cond.static Lib.Math.min.name).before args s = true) (hini : (Cond.initialized "java/lang/Math").before args s = true) (hcode : (Cond.code Lib.Math.min.name Lib.Math.min.code 2 (some .int)).before args s = true) (hd : decode cc pc = .ok (.invokestatic index, 3)) (hn : pc + 3 = nx) : cr_Snd p l e R s m args below meth c lo mc ms Q pc (cr_mmin mc ms d nL nx) := by
  subst hn
  intro K lv st H k n hKK h ls locs hl hq
  match st, h with
  | .int y :: .int x :: r, ⟨h1, h2, h3, h4, h5, h6⟩ =>
    exact va_mmin hx hb (by rw [hml, ← h1]; exact hl.1.symm) hown hlink hstat hini hcode (by rw [hR]; exact h2) (by rw [hR]; show _ + 13 ≤ 60 * d; omega) (by rw [hR]; exact h4) (by rw [hR]; exact h5) hd (hKK _ _ _ _ _ _ h6 ls locs hl hq)
end CR7
end
section
/-! THE PROGRAM's OWN THROWS: new, dup, ldc, <init>, athrow as one step -/
def cr_chain : List String := ["java/lang/RuntimeException", "java/lang/Exception"]
/-- the words that lean on the heap, too -/
def cr_hd : List Cond := [.laysStatic "java/lang/Throwable" "UNASSIGNED_STACK" "[Ljava/lang/StackTraceElement;", .laysStatic "java/lang/Throwable" "SUPPRESSED_SENTINEL" "Ljava/util/List;",
  .isRef (.static "java/lang/Throwable" "UNASSIGNED_STACK" "[Ljava/lang/StackTraceElement;"), .isRef (.static "java/lang/Throwable" "SUPPRESSED_SENTINEL" "Ljava/util/List;")]
theorem cr_ff {u v : State} (hv : v.vm = u.vm) (C n d : String) : v.fieldFound? C n d = u.fieldFound? C n d := by
  unfold State.fieldFound?
  rw [hv]
theorem cr_lsH {u v : State} {a b : Array Value} {C n d : String} (hv : v.vm = u.vm) (hh : ∀ (q : Nat) (cell : Cell), u.heap[q]? = some cell → v.heap[q]? = some cell) (h : (Cond.laysStatic C n d).before a u = true) : (Cond.laysStatic C n d).before b v = true := by
  obtain ⟨c, k, i, f, x, cell, h1, h2, h3, h4, h5, h6, h7, h8, h9⟩ := Cond.laysStatic_spec h
  have e1 : v.vm.findClass C = some c := by rw [hv]; exact h1
  have e2 := (cr_ff hv C n d).trans h2
  simp only [Cond.before, Cond.holds, Cond.value, e1, e2, h4, Option.bind_some, hh x cell h5, Option.map_some, h3, h6, h7, h9, beq_self_eq_true, Bool.and_true, decide_true]
  simp [h8]
theorem cr_irH {u v : State} {a b : Array Value} {C n d : String} (hv : v.vm = u.vm) (hh : ∀ (q : Nat) (cell : Cell), u.heap[q]? = some cell → v.heap[q]? = some cell) (hl : (Cond.laysStatic C n d).before a u = true) (h : (Cond.isRef (.static C n d)).before a u = true) : (Cond.isRef (.static C n d)).before b v = true := by
  obtain ⟨c, k, i, f, x, cell, h1, h2, h3, h4, h5, h6, h7, h8, h9⟩ := Cond.laysStatic_spec hl
  have e2 := (cr_ff hv C n d).trans h2
  have e3 : (Term.static C n d).eval b v none [] v = (Term.static C n d).eval a u none [] u := by
    simp only [Term.eval, State.fieldNamed?, e2, h2, Option.bind_eq_bind, Option.bind_some, h3, beq_self_eq_true, if_true, Option.pure_def, h4, hh x cell h5, h5]
  simp only [Cond.before, Cond.holds, Cond.value, e3] at h ⊢
  exact h
theorem cr_hdH {s0 V : State} {D : va_G} {ca : Nat → ClassId} {e0 : Nat} (Z : cr_Z0 s0 D ca e0) (hU : cr_W0 s0 V) (hold : cr_Old s0 V.heap) (args : Array Value) : ∀ a ∈ cr_hd, a.before args V = true := by
  obtain ⟨⟨a0, h⟩, -, -, -, ⟨a1, g1, g2⟩, -⟩ := Z
  have hh : ∀ (q : Nat) (cell : Cell), (s0.setVm V.vm).heap[q]? = some cell → V.heap[q]? = some cell := fun q cell hq => by
    have hq' : s0.heap[q]? = some cell := hq
    rw [hold q (Array.getElem?_eq_some_iff.mp hq').1]
    exact hq'
  have sh := State.Shifted.of_warmed hU
  have l1 := Cond.before_shiftedFace (args := a0) sh _ rfl (h _ wn_lsU)
  have l2 := Cond.before_shiftedFace (args := a0) sh _ rfl (h _ wn_lsS)
  have l1' := Cond.before_shiftedFace (args := a1) sh (.laysStatic "java/lang/Throwable" "UNASSIGNED_STACK" "[Ljava/lang/StackTraceElement;") rfl (show _ = true from h _ wn_lsU)
  have l2' := Cond.before_shiftedFace (args := a1) sh (.laysStatic "java/lang/Throwable" "SUPPRESSED_SENTINEL" "Ljava/util/List;") rfl (show _ = true from h _ wn_lsS)
  have r1 := Cond.before_shiftedFace (args := a1) sh _ rfl g1
  have r2 := Cond.before_shiftedFace (args := a1) sh _ rfl g2
  unfold cr_hd
  refine List.forall_mem_cons.mpr ⟨cr_lsH (u := s0.setVm V.vm) rfl hh l1, List.forall_mem_cons.mpr ⟨cr_lsH (u := s0.setVm V.vm) rfl hh l2, List.forall_mem_cons.mpr ⟨cr_irH (u := s0.setVm V.vm) rfl hh l1' r1, List.forall_mem_cons.mpr ⟨cr_irH (u := s0.setVm V.vm) rfl hh l2' r2, fun _ h => absurd h List.not_mem_nil⟩⟩⟩⟩
theorem cr_own {s0 V : State} {D : va_G} {ca : Nat → ClassId} {e0 : Nat} {L : List Cond} (Z : cr_Z0 s0 D ca e0) (hL : ∀ a ∈ L, (cr_ok a = true ∧ a ∈ lw_tbl) ∨ a ∈ cr_hd) (hU : cr_W0 s0 V) (hold : cr_Old s0 V.heap) (args : Array Value) : ∀ a ∈ L, a.before args V = true := by
  intro a ha
  rcases hL a ha with ⟨h1, h2⟩ | h
  · exact cr_w Z h2 h1 hU args
  · exact cr_hdH Z hU hold args a h
/-- an illegal argument (1) or state (2) is thrown; nothing that was there changes -/
def cr_thr (s0 : State) (mc ms d kd nL : Nat) : cr_T := fun _ Q lv st H k n => cr_Old s0 H ∧ lv.length = nL ∧ k + 1 ≤ mc ∧ n + 6 ≤ ms ∧ 6 ≤ d ∧ (st.map fun v => v.category).sum ≤ 4 ∧ ∀ H' : Heap, H.size ≤ H'.size → (∀ q : Nat, q < H.size → H'[q]? = H[q]?) → Q (.inr kd) H'
section CR8
variable {p : Program} {l : Launch} {e : Env} {R : Room} {s : State} {m : MethodId} {args : Array Value} {below : List Frame} {meth : Method} {c : Code} {mc ms d : Nat} {Q : cr_Q}
variable {cc : ByteArray} {pc : Nat} {D : va_G} {s0 : State} {ca : Nat → ClassId} {e0 : Nat} {own : String} {index : Nat}
theorem cr_cell_eq {x y : Cell} (h1 : y = { x with slots := y.slots }) (h2 : ∀ i : Nat, y.slots[i]? = x.slots[i]?) : y = x := by
  have h3 : y.slots = x.slots := Array.ext_getElem? h2
  rw [h1, h3]
/-- the throw, its text already on the stack -/
theorem cr_thr_end {T : State} {k n : Nat} {locs : List Loc} {H : Heap} {ls : Array Slot} {st : List Value} {X : String} {kd ix ic nL pcI q : Nat} (hx : p.tables.exec = Jvm.exec) (hb : c.code = cc) (hml : c.maxLocals = nL) (hown : s.vm.findClass own = some m.cls) (hlk : meth.locks = false) (hU : cr_W0 s0 s) (hR : R = cr_rm d mc ms) (hem : c.exceptionTable.toList = []) (Z : cr_Z0 s0 D ca e0) (hl : l.flags = flags0) (hX : X = cr_ex kd)
    (wC : Cond.classLink own ix X ∈ lw_tbl) (wI : Cond.instantiable X 6 ∈ lw_tbl) (wN : Cond.initialized X ∈ lw_tbl) (hfit : Bundle.fit X = true)
    (hO : ∀ {V : State}, cr_W0 s0 V → cr_Old s0 V.heap → ∀ args, ∀ a ∈ Bundle.ownAtoms own ic X cr_chain, a.before args V = true)
    (d0 : decode cc pc = .ok (.new ix, 3)) (d1 : decode cc (pc + 3) = .ok (.dup, 1)) (d3 : decode cc pcI = .ok (.invokespecial ic, 3)) (d4 : decode cc (pcI + 3) = .ok (.athrow, 1))
    (hT : T.heap = H) (X0 : Stand p l e R s m args below meth c T locs k n) (hls : ls.size = nL) (hold : cr_Old s0 H) (hk : k + 1 ≤ mc) (hn : n + 6 ≤ ms) (hd6 : 6 ≤ d) (hcat : (st.map fun v => v.category).sum ≤ 4) (hq : ∀ q ∈ locs, cr_lc s0.heap.size s q.base)
    (hstr : ∀ (s' : State) (R' : Room) (H2 : Heap) (k2 n2 : Nat) (Q2 : State → Prop) (r : List Value), s'.vm.findClass own = some m.cls → cr_W0 s0 s' → W p l e R' s' m args below meth c H2 [] k2 n2 Q2 (F0 m pcI ls (.ref q :: r)) → W p l e R' s' m args below meth c H2 [] k2 n2 Q2 (F0 m (pc + 4) ls r))
    (hQ : ∀ H' : Heap, H.size ≤ H'.size → (∀ q : Nat, q < H.size → H'[q]? = H[q]?) → Q (.inr kd) H') : ∃ t, Steps p.tables e below (T.setTop (F0 m pc ls st)) t ∧ cr_MQ below s0.heap.size mc ms Q s t := by
  have htr : e.platform.stackTraces = false := Launch.traces_off hl X0.admits
  have hRc : R.cells = mc := by rw [hR]; rfl
  have hRs : R.slots = ms := by rw [hR]; rfl
  have Y := cr_rebase (R' := { frames := R.frames, cells := 1, slots := 6, locals := R.locals }) X0 (Nat.le_refl _) (Nat.le_refl _) (by rw [hRc]; exact hk) (by rw [hRs]; exact hn)
  generalize hs' : T.setFrames (.invoking m args :: below) = s' at Y
  have hvm : s'.vm = T.vm := by rw [← hs']; rfl
  have hhp : s'.heap = H := by rw [← hs']; exact hT
  have hW' : s.WarmedH s'.vm := by rw [hvm]; exact X0.warmed
  have hU' : cr_W0 s0 s' := cr_W0_st s0 s s' hW' hU
  have hown' : s'.vm.findClass own = some m.cls := by rw [hW'.alike.findClass]; exact hown
  -- the walk from here
  have walk : W p l e { frames := R.frames, cells := 1, slots := 6, locals := R.locals } s' m args below meth c H [] 0 0 (fun t => ∃ a, t.status = .running ∧ Ended t below (.threw a) ∧ s'.WarmedH t.vm ∧ s'.sameButNew ({ t with vm := s'.vm } : State) [] 1 6 ∧ ∃ ce, t.heap[a]? = some ce ∧ ce.vm = .none ∧ s'.vm.findClass X = some ce.cls) (F0 m pc ls st) := by
    refine W.newc hx hb hown' (cr_w Z wC rfl hU' args) (cr_w Z wI rfl hU' args) (cr_w Z wN rfl hU' args) rfl d0 (Nat.le_refl _) (Nat.le_refl _) fun cC kC f1 f2 f3 f4 => ?_
    refine lv_dup hx hb d1 rfl ?_
    refine hstr s' _ _ _ _ _ _ hown' hU' ?_
    intro T2 hT2 X2
    have hcell : T2.heap[H.size]? = some (freshCell cC kC) := by rw [hT2, Array.getElem?_push_size]
    obtain ⟨U, u1, u2, u3, u4, u5, ce, u6, u7⟩ := X2.ctorThrowS hx htr (own := own) (cls := X) (names := cr_chain) (ic := ic) hown' hfit (by decide) (hO hU' (by rw [hhp]; exact hold) args) (fun x h => by cases h) f1 f2 hcell (by rw [hhp]; exact Nat.le_refl _) (msg := .ref q) rfl
      (g := F0 m pcI ls (.ref q :: .ref H.size :: .ref H.size :: st)) rfl (by rw [hml]; exact hls) rfl rfl (rest := st) rfl (by rw [hb]; exact d3) (by rw [hb]; exact d4) (by rw [hem]; exact fun _ h => absurd h List.not_mem_nil)
      (by show 2 + 3 < R.frames; rw [hR]; show 2 + 3 < d; omega) (by show 2 * 0 + (1 + (st.map fun v => v.category).sum) + (13 * (2 + 1) + 42) ≤ R.locals; rw [hR]; show _ ≤ 60 * d; omega) hlk
    exact ⟨U, u1, H.size, u2, u3, u4, u5, ce, u6, u7.vm, u7.cls⟩
  obtain ⟨t, a1, a, b1, b2, b3, b4, ce, b5, b6, b7⟩ := walk T hT Y
  have hcells : ∀ y : Nat, y < H.size → t.heap[y]? = H[y]? := by
    intro y hy
    obtain ⟨x, hx9⟩ : ∃ x, H[y]? = some x := ⟨_, Array.getElem?_eq_getElem hy⟩
    obtain ⟨c', g1, g2, g3, g4⟩ := b4.2.2.2.2.2 y x (by rw [hhp]; exact hx9)
    have g5 : c' = x := cr_cell_eq g2 (fun i => g4 i List.not_mem_nil)
    rw [hx9, ← g5]
    exact g1
  have hsz : H.size ≤ t.heap.size := by
    have h9 := b4.2.1
    rw [hhp] at h9
    exact h9
  have same : T.sameButNew ({ t with vm := T.vm } : State) [] 1 6 := by
    obtain ⟨e2, q2, q3, q4, q5, q6⟩ := b4
    refine ⟨?_, by rw [hT, ← hhp]; exact q2, by rw [hT, ← hhp]; exact q3, ?_, ?_, ?_⟩
    · rw [← hs', State.setFrames_setFrames] at e2
      exact e2
    · rw [← hs'] at q4; exact q4
    · rw [← hs'] at q5; exact q5
    · rw [← hs'] at q6; exact q6
  refine ⟨t, a1, .threw a, b1, b2, Or.inr ⟨a, kd, rfl, ⟨ce, b5, by rw [b6]; rfl, ?_⟩, hQ _ hsz hcells⟩, locs ++ [], ⟨State.WarmedH.trans hW' b3, (X0.same.trans (same.setVm s.vm)).mono hk hn⟩, by rw [List.append_nil]; exact hq⟩
  rw [← hX, ← hW'.alike.findClass]
  exact b7
theorem cr_thr_ok {X : String} {kd ix ic nL k1 pc1 pc2 pc3 pc4 : Nat} {tx : String} (hx : p.tables.exec = Jvm.exec) (hb : c.code = cc) (hml : c.maxLocals = nL) (hown : s.vm.findClass own = some m.cls) (hlk : meth.locks = false) (hU : cr_W0 s0 s) (hR : R = cr_rm d mc ms) (hem : c.exceptionTable.toList = []) (Z : cr_Z0 s0 D ca e0) (hl : l.flags = flags0) (hX : X = cr_ex kd)
    (wC : Cond.classLink own ix X ∈ lw_tbl) (wI : Cond.instantiable X 6 ∈ lw_tbl) (wN : Cond.initialized X ∈ lw_tbl)
    (hO : ∀ {s0 V : State} {D : va_G} {ca : Nat → ClassId} {e0 : Nat}, cr_Z0 s0 D ca e0 → cr_W0 s0 V → cr_Old s0 V.heap → ∀ args, ∀ a ∈ Bundle.ownAtoms own ic X cr_chain, a.before args V = true)
    (hstr : ∀ {s0 : State} {D : va_G} {ca : Nat → ClassId} {e0 : Nat}, cr_Z0 s0 D ca e0 → ∃ a, vk_R own k1 tx a s0)
    (d0 : decode cc pc = .ok (.new ix, 3)) (d1 : decode cc pc1 = .ok (.dup, 1)) (d2 : decode cc pc2 = .ok (.ldc k1, 2)) (d3 : decode cc pc3 = .ok (.invokespecial ic, 3)) (d4 : decode cc pc4 = .ok (.athrow, 1)) (e1 : pc + 3 = pc1 := by rfl) (e2 : pc + 4 = pc2 := by rfl) (e3 : pc2 + 2 = pc3 := by rfl) (e4 : pc3 + 3 = pc4 := by rfl) (hfit : Bundle.fit X = true := by decide) :
    cr_Snd p l e R s m args below meth c s0.heap.size mc ms Q pc (cr_thr s0 mc ms d kd nL) := by
  subst e1; subst e2; subst e3; subst e4
  intro K lv st H k n hK h ls locs hll hq
  obtain ⟨h1, h2, h3, h4, h5, h6, h7⟩ := h
  obtain ⟨q, hqs⟩ := hstr Z
  intro T hT X0
  refine cr_thr_end (pc := pc) (pcI := pc + 4 + 2) (q := q) hx hb hml hown hlk hU hR hem Z hl hX wC wI wN hfit (fun hU hold args => hO Z hU hold args) d0 d1 d3 d4 hT X0 (by rw [← h2]; exact hll.1) h1 h3 h4 h5 h6 hq (fun s' R' H2 k2 n2 Q2 r ho hu w => ?_) h7
  exact va_ldcS hx hb ho (vk_R.warm hu hqs) d2 w
theorem cr_ldcwS {s' : State} {R' : Room} {H2 : Heap} {k2 n2 : Nat} {Q2 : State → Prop} {locs : List Loc} {ls : Array Slot} {r : List Value} {tx : String} {k1 q : Nat} (hx : p.tables.exec = Jvm.exec) (hb : c.code = cc) (hown : s'.vm.findClass own = some m.cls) (hZ : vk_R own k1 tx q s') (hd : decode cc pc = .ok (.ldc_w k1, 3)) (w : W p l e R' s' m args below meth c H2 locs k2 n2 Q2 (F0 m (pc + 3) ls (.ref q :: r))) : W p l e R' s' m args below meth c H2 locs k2 n2 Q2 (F0 m pc ls r) := by
  intro T hT X
  obtain ⟨t, a1, b1⟩ := w T hT X
  obtain ⟨k, cf, i, a', hk, hcf, hcp, -, hr, hev'⟩ := Cond.stringRef_spec hown hZ.1
  cases hZ.2.symm.trans hev'
  obtain ⟨k', hk', he⟩ := X.warmed.alike.2.2 _ _ hk
  have hr' : k'.resolved[k1]? = some (some (.string q)) := by
    rcases X.warmed.entry hk hk' k1 with h | ⟨h, -⟩
    · rw [h]; exact hr
    · rw [hr] at h; cases h
  refine ⟨t, ?_, b1⟩
  have hdg : decode c.code (F0 m pc ls r).pc = .ok (.ldc_w k1, 3) := by rw [hb]; exact hd
  jvm_step X.here [hx, hdg, ldc_w.wp_string (e := e) (s := T) (f := F0 m pc ls r) X.here.top hk' (by rw [he]; exact hcf) hcp hr']
  exact a1
theorem cr_thrw_ok {X : String} {kd ix ic nL k1 pc1 pc2 pc3 pc4 : Nat} {tx : String} (hx : p.tables.exec = Jvm.exec) (hb : c.code = cc) (hml : c.maxLocals = nL) (hown : s.vm.findClass own = some m.cls) (hlk : meth.locks = false) (hU : cr_W0 s0 s) (hR : R = cr_rm d mc ms) (hem : c.exceptionTable.toList = []) (Z : cr_Z0 s0 D ca e0) (hl : l.flags = flags0) (hX : X = cr_ex kd)
    (wC : Cond.classLink own ix X ∈ lw_tbl) (wI : Cond.instantiable X 6 ∈ lw_tbl) (wN : Cond.initialized X ∈ lw_tbl)
    (hO : ∀ {s0 V : State} {D : va_G} {ca : Nat → ClassId} {e0 : Nat}, cr_Z0 s0 D ca e0 → cr_W0 s0 V → cr_Old s0 V.heap → ∀ args, ∀ a ∈ Bundle.ownAtoms own ic X cr_chain, a.before args V = true)
    (hstr : ∀ {s0 : State} {D : va_G} {ca : Nat → ClassId} {e0 : Nat}, cr_Z0 s0 D ca e0 → ∃ a, vk_R own k1 tx a s0)
    (d0 : decode cc pc = .ok (.new ix, 3)) (d1 : decode cc pc1 = .ok (.dup, 1)) (d2 : decode cc pc2 = .ok (.ldc_w k1, 3)) (d3 : decode cc pc3 = .ok (.invokespecial ic, 3)) (d4 : decode cc pc4 = .ok (.athrow, 1)) (e1 : pc + 3 = pc1 := by rfl) (e2 : pc + 4 = pc2 := by rfl) (e3 : pc2 + 3 = pc3 := by rfl) (e4 : pc3 + 3 = pc4 := by rfl) (hfit : Bundle.fit X = true := by decide) :
    cr_Snd p l e R s m args below meth c s0.heap.size mc ms Q pc (cr_thr s0 mc ms d kd nL) := by
  subst e1; subst e2; subst e3; subst e4
  intro K lv st H k n hK h ls locs hll hq
  obtain ⟨h1, h2, h3, h4, h5, h6, h7⟩ := h
  obtain ⟨q, hqs⟩ := hstr Z
  intro T hT X0
  refine cr_thr_end (pc := pc) (pcI := pc + 4 + 3) (q := q) hx hb hml hown hlk hU hR hem Z hl hX wC wI wN hfit (fun hU hold args => hO Z hU hold args) d0 d1 d3 d4 hT X0 (by rw [← h2]; exact hll.1) h1 h3 h4 h5 h6 hq (fun s' R' H2 k2 n2 Q2 r ho hu w => ?_) h7
  exact cr_ldcwS hx hb ho (vk_R.warm hu hqs) d2 w
end CR8
end
section
theorem oa_C_74 : ∀ a ∈ Bundle.ownAtoms "CardRights" 74 "java/lang/IllegalStateException" cr_chain, (cr_ok a = true ∧ a ∈ lw_tbl) ∨ a ∈ cr_hd := by decide +kernel
theorem own_C_74 {s0 V : State} {D : va_G} {ca : Nat → ClassId} {e0 : Nat} (Z : cr_Z0 s0 D ca e0) (hU : cr_W0 s0 V) (hold : cr_Old s0 V.heap) (args : Array Value) : ∀ a ∈ Bundle.ownAtoms "CardRights" 74 "java/lang/IllegalStateException" cr_chain, a.before args V = true := cr_own Z oa_C_74 hU hold args
theorem oa_C_97 : ∀ a ∈ Bundle.ownAtoms "CardRights" 97 "java/lang/IllegalArgumentException" cr_chain, (cr_ok a = true ∧ a ∈ lw_tbl) ∨ a ∈ cr_hd := by decide +kernel
theorem own_C_97 {s0 V : State} {D : va_G} {ca : Nat → ClassId} {e0 : Nat} (Z : cr_Z0 s0 D ca e0) (hU : cr_W0 s0 V) (hold : cr_Old s0 V.heap) (args : Array Value) : ∀ a ∈ Bundle.ownAtoms "CardRights" 97 "java/lang/IllegalArgumentException" cr_chain, a.before args V = true := cr_own Z oa_C_97 hU hold args
theorem str_72 {s0 : State} {D : va_G} {ca : Nat → ClassId} {e0 : Nat} (Z : cr_Z0 s0 D ca e0) : ∃ a, vk_R "CardRights" 72 "there are as many rooms as may be" a s0 := Z.2.2.2.2.2.1 _ _ _ w_339
theorem str_95 {s0 : State} {D : va_G} {ca : Nat → ClassId} {e0 : Nat} (Z : cr_Z0 s0 D ca e0) : ∃ a, vk_R "CardRights" 95 "a door joins two rooms" a s0 := Z.2.2.2.2.2.1 _ _ _ w_440
theorem str_98 {s0 : State} {D : va_G} {ca : Nat → ClassId} {e0 : Nat} (Z : cr_Z0 s0 D ca e0) : ∃ a, vk_R "CardRights" 98 "there are as many doors as may be" a s0 := Z.2.2.2.2.2.1 _ _ _ w_441
theorem str_109 {s0 : State} {D : va_G} {ca : Nat → ClassId} {e0 : Nat} (Z : cr_Z0 s0 D ca e0) : ∃ a, vk_R "CardRights" 109 "there are as many persons as may be" a s0 := Z.2.2.2.2.2.1 _ _ _ w_503
theorem str_115 {s0 : State} {D : va_G} {ca : Nat → ClassId} {e0 : Nat} (Z : cr_Z0 s0 D ca e0) : ∃ a, vk_R "CardRights" 115 "there is no room to be in" a s0 := Z.2.2.2.2.2.1 _ _ _ w_513
theorem str_133 {s0 : State} {D : va_G} {ca : Nat → ClassId} {e0 : Nat} (Z : cr_Z0 s0 D ca e0) : ∃ a, vk_R "CardRights" 133 "there are as many cards as may be" a s0 := Z.2.2.2.2.2.1 _ _ _ w_546
theorem str_147 {s0 : State} {D : va_G} {ca : Nat → ClassId} {e0 : Nat} (Z : cr_Z0 s0 D ca e0) : ∃ a, vk_R "CardRights" 147 "there are as many rights as may be" a s0 := Z.2.2.2.2.2.1 _ _ _ w_577
theorem str_157 {s0 : State} {D : va_G} {ca : Nat → ClassId} {e0 : Nat} (Z : cr_Z0 s0 D ca e0) : ∃ a, vk_R "CardRights" 157 "there is no such right" a s0 := Z.2.2.2.2.2.1 _ _ _ w_606
theorem str_178 {s0 : State} {D : va_G} {ca : Nat → ClassId} {e0 : Nat} (Z : cr_Z0 s0 D ca e0) : ∃ a, vk_R "CardRights" 178 "an airlock has two doors" a s0 := Z.2.2.2.2.2.1 _ _ _ w_638
theorem str_227 {s0 : State} {D : va_G} {ca : Nat → ClassId} {e0 : Nat} (Z : cr_Z0 s0 D ca e0) : ∃ a, vk_R "CardRights" 227 "one card is not two" a s0 := Z.2.2.2.2.2.1 _ _ _ w_775
theorem str_240 {s0 : State} {D : va_G} {ca : Nat → ClassId} {e0 : Nat} (Z : cr_Z0 s0 D ca e0) : ∃ a, vk_R "CardRights" 240 "a place is not below 0" a s0 := Z.2.2.2.2.2.1 _ _ _ w_797
theorem str_248 {s0 : State} {D : va_G} {ca : Nat → ClassId} {e0 : Nat} (Z : cr_Z0 s0 D ca e0) : ∃ a, vk_R "CardRights" 248 "no such row is kept" a s0 := Z.2.2.2.2.2.1 _ _ _ w_810
theorem str_250 {s0 : State} {D : va_G} {ca : Nat → ClassId} {e0 : Nat} (Z : cr_Z0 s0 D ca e0) : ∃ a, vk_R "CardRights" 250 "a row has no such part" a s0 := Z.2.2.2.2.2.1 _ _ _ w_811
theorem str_272 {s0 : State} {D : va_G} {ca : Nat → ClassId} {e0 : Nat} (Z : cr_Z0 s0 D ca e0) : ∃ a, vk_R "CardRights" 272 "there is no such zone" a s0 := Z.2.2.2.2.2.1 _ _ _ w_303
theorem str_274 {s0 : State} {D : va_G} {ca : Nat → ClassId} {e0 : Nat} (Z : cr_Z0 s0 D ca e0) : ∃ a, vk_R "CardRights" 274 "there is no such group" a s0 := Z.2.2.2.2.2.1 _ _ _ w_502
theorem str_276 {s0 : State} {D : va_G} {ca : Nat → ClassId} {e0 : Nat} (Z : cr_Z0 s0 D ca e0) : ∃ a, vk_R "CardRights" 276 "a day has no such minute" a s0 := Z.2.2.2.2.2.1 _ _ _ w_576
theorem str_279 {s0 : State} {D : va_G} {ca : Nat → ClassId} {e0 : Nat} (Z : cr_Z0 s0 D ca e0) : ∃ a, vk_R "CardRights" 279 "there is no such minute" a s0 := Z.2.2.2.2.2.1 _ _ _ w_545
theorem str_281 {s0 : State} {D : va_G} {ca : Nat → ClassId} {e0 : Nat} (Z : cr_Z0 s0 D ca e0) : ∃ a, vk_R "CardRights" 281 "the minute is over" a s0 := Z.2.2.2.2.2.1 _ _ _ w_658
theorem str_286 {s0 : State} {D : va_G} {ca : Nat → ClassId} {e0 : Nat} (Z : cr_Z0 s0 D ca e0) : ∃ a, vk_R "CardRights" 286 "the door can keep no more rows" a s0 := Z.2.2.2.2.2.1 _ _ _ w_729
theorem str_288 {s0 : State} {D : va_G} {ca : Nat → ClassId} {e0 : Nat} (Z : cr_Z0 s0 D ca e0) : ∃ a, vk_R "CardRights" 288 "there is no such room" a s0 := Z.2.2.2.2.2.1 _ _ _ w_439
theorem str_296 {s0 : State} {D : va_G} {ca : Nat → ClassId} {e0 : Nat} (Z : cr_Z0 s0 D ca e0) : ∃ a, vk_R "CardRights" 296 "the room is none of the door's" a s0 := Z.2.2.2.2.2.1 _ _ _ w_725
theorem str_298 {s0 : State} {D : va_G} {ca : Nat → ClassId} {e0 : Nat} (Z : cr_Z0 s0 D ca e0) : ∃ a, vk_R "CardRights" 298 "there is no such door" a s0 := Z.2.2.2.2.2.1 _ _ _ w_630
theorem str_300 {s0 : State} {D : va_G} {ca : Nat → ClassId} {e0 : Nat} (Z : cr_Z0 s0 D ca e0) : ∃ a, vk_R "CardRights" 300 "there is no such person" a s0 := Z.2.2.2.2.2.1 _ _ _ w_540
theorem str_302 {s0 : State} {D : va_G} {ca : Nat → ClassId} {e0 : Nat} (Z : cr_Z0 s0 D ca e0) : ∃ a, vk_R "CardRights" 302 "there is no such card" a s0 := Z.2.2.2.2.2.1 _ _ _ w_618
end
section
theorem d_AL_init_0 : decode c_AL_init 0 = .ok (.aload_n 0, 1) := by decide +kernel
theorem d_AL_init_1 : decode c_AL_init 1 = .ok (.invokespecial 1, 3) := by decide +kernel
theorem d_AL_init_4 : decode c_AL_init 4 = .ok (.aload_n 0, 1) := by decide +kernel
theorem d_AL_init_5 : decode c_AL_init 5 = .ok (.getstatic 39, 3) := by decide +kernel
theorem d_AL_init_8 : decode c_AL_init 8 = .ok (.putfield 9, 3) := by decide +kernel
theorem d_AL_init_11 : decode c_AL_init 11 = .ok (.return_, 1) := by decide +kernel
def t_AL_init_0 (l : Launch) (s0 : State) (D : va_G) (ca : Nat → ClassId) (e0 d mc ms : Nat) : List (Nat × cr_T) := [(0, cr_aload 0 1),
  (1, cr_calI l (cr_W0 s0) s0.heap.size y_AbL_init cw_AbL_init d mc ms 0 1 4),
  (4, cr_aload 0 5),
  (5, cr_gets s0 e0 8),
  (8, cr_putf D kc s0.heap.size 12 0 (.array (.object "java/lang/Object")) 11),
  (11, cr_vret mc ms)]
def t_AL_init (l : Launch) (s0 : State) (D : va_G) (ca : Nat → ClassId) (e0 d mc ms : Nat) : List (Nat × cr_T) := t_AL_init_0 l s0 D ca e0 d mc ms
set_option maxHeartbeats 4000000 in
set_option maxRecDepth 20000 in
theorem s_AL_init_0 {p : Program} {l : Launch} {e : Env} {R : Room} {s : State} {m : MethodId} {args : Array Value} {below : List Frame} {meth : Method} {c : Code} {s0 : State} {D : va_G} {ca : Nat → ClassId} {e0 d mc ms : Nat} {Q : cr_Q} (hl : l.flags = flags0) (Z : cr_Z0 s0 D ca e0) (C : cr_C p R s m meth c (cr_W0 s0) s0.heap.size y_AL_init c_AL_init 1 (Option.none : Option FieldType) d mc ms) (hem : c.exceptionTable.toList = []) : ∀ x ∈ t_AL_init_0 l s0 D ca e0 d mc ms, cr_Snd p l e R s m args below meth c s0.heap.size mc ms Q x.1 x.2 := by
  obtain ⟨hx, hb, hml, hown, hr, hlk, hnm, hU, hlo, hR⟩ := C
  have hK := cr_Z0K Z hU
  have hRc : R.cells = mc := by rw [hR]; rfl
  have hRs : R.slots = ms := by rw [hR]; rfl
  unfold t_AL_init_0
  refine cr_cons (cr_aload_n_ok hx hb d_AL_init_0 rfl rfl) ?_
  refine cr_cons (cr_calI_ok hx hb hml hown hlk hU hlo hR (cr_W0_st s0) (by rw [hem]; exact fun _ h => absurd h List.not_mem_nil) (u_AbL_init Z) (Or.inl (cr_w Z w_40 rfl hU args)) (cr_w Z w_41 rfl hU args) rfl (by decide) (by decide +kernel) (by decide) d_AL_init_1 rfl) ?_
  refine cr_cons (cr_aload_n_ok hx hb d_AL_init_4 rfl rfl) ?_
  refine cr_cons (cr_gets_ok hx hb hown Z hU (cr_w Z w_47 rfl hU args) d_AL_init_5 rfl) ?_
  refine cr_cons (cr_putf_ok (C := R_AL) (T := T_AL) (N := 3) tt_AL hx hb (k_AL Z hU args) (fun _ h => h) ty_AL nm_AL hown hK rfl (by decide) (Or.inl (cr_w Z w_49 rfl hU args)) (fun _ h => h) rfl (by decide +kernel) d_AL_init_8 rfl) ?_
  refine cr_cons (cr_vret_ok hx hb hr hlk d_AL_init_11) ?_
  exact cr_nil
theorem s_AL_init {p : Program} {l : Launch} {e : Env} {R : Room} {s : State} {m : MethodId} {args : Array Value} {below : List Frame} {meth : Method} {c : Code} {s0 : State} {D : va_G} {ca : Nat → ClassId} {e0 d mc ms : Nat} {Q : cr_Q} (hl : l.flags = flags0) (Z : cr_Z0 s0 D ca e0) (C : cr_C p R s m meth c (cr_W0 s0) s0.heap.size y_AL_init c_AL_init 1 (Option.none : Option FieldType) d mc ms) (hem : c.exceptionTable.toList = []) : ∀ x ∈ t_AL_init l s0 D ca e0 d mc ms, cr_Snd p l e R s m args below meth c s0.heap.size mc ms Q x.1 x.2 := s_AL_init_0 hl Z C hem
theorem d_AbL_init_0 : decode c_AbL_init 0 = .ok (.aload_n 0, 1) := by decide +kernel
theorem d_AbL_init_1 : decode c_AbL_init 1 = .ok (.invokespecial 1, 3) := by decide +kernel
theorem d_AbL_init_4 : decode c_AbL_init 4 = .ok (.aload_n 0, 1) := by decide +kernel
theorem d_AbL_init_5 : decode c_AbL_init 5 = .ok (.iconst 0, 1) := by decide +kernel
theorem d_AbL_init_6 : decode c_AbL_init 6 = .ok (.putfield 7, 3) := by decide +kernel
theorem d_AbL_init_9 : decode c_AbL_init 9 = .ok (.return_, 1) := by decide +kernel
def t_AbL_init_0 (l : Launch) (s0 : State) (D : va_G) (ca : Nat → ClassId) (e0 d mc ms : Nat) : List (Nat × cr_T) := [(0, cr_aload 0 1),
  (1, cr_calI l (cr_W0 s0) s0.heap.size y_AbC_init cw_AbC_init d mc ms 0 1 4),
  (4, cr_aload 0 5),
  (5, cr_push (.int 0) 6),
  (6, cr_putf D kc s0.heap.size 12 2 .int 9),
  (9, cr_vret mc ms)]
def t_AbL_init (l : Launch) (s0 : State) (D : va_G) (ca : Nat → ClassId) (e0 d mc ms : Nat) : List (Nat × cr_T) := t_AbL_init_0 l s0 D ca e0 d mc ms
set_option maxHeartbeats 4000000 in
set_option maxRecDepth 20000 in
theorem s_AbL_init_0 {p : Program} {l : Launch} {e : Env} {R : Room} {s : State} {m : MethodId} {args : Array Value} {below : List Frame} {meth : Method} {c : Code} {s0 : State} {D : va_G} {ca : Nat → ClassId} {e0 d mc ms : Nat} {Q : cr_Q} (hl : l.flags = flags0) (Z : cr_Z0 s0 D ca e0) (C : cr_C p R s m meth c (cr_W0 s0) s0.heap.size y_AbL_init c_AbL_init 1 (Option.none : Option FieldType) d mc ms) (hem : c.exceptionTable.toList = []) : ∀ x ∈ t_AbL_init_0 l s0 D ca e0 d mc ms, cr_Snd p l e R s m args below meth c s0.heap.size mc ms Q x.1 x.2 := by
  obtain ⟨hx, hb, hml, hown, hr, hlk, hnm, hU, hlo, hR⟩ := C
  have hK := cr_Z0K Z hU
  have hRc : R.cells = mc := by rw [hR]; rfl
  have hRs : R.slots = ms := by rw [hR]; rfl
  unfold t_AbL_init_0
  refine cr_cons (cr_aload_n_ok hx hb d_AbL_init_0 rfl rfl) ?_
  refine cr_cons (cr_calI_ok hx hb hml hown hlk hU hlo hR (cr_W0_st s0) (by rw [hem]; exact fun _ h => absurd h List.not_mem_nil) (u_AbC_init Z) (Or.inl (cr_w Z w_43 rfl hU args)) (cr_w Z w_44 rfl hU args) rfl (by decide) (by decide +kernel) (by decide) d_AbL_init_1 rfl) ?_
  refine cr_cons (cr_aload_n_ok hx hb d_AbL_init_4 rfl rfl) ?_
  refine cr_cons (cr_iconst_ok hx hb d_AbL_init_5 (by decide) rfl) ?_
  refine cr_cons (cr_putf_ok (C := R_AL) (T := T_AL) (N := 3) tt_AL hx hb (k_AL Z hU args) (fun _ h => h) ty_AL nm_AL hown hK rfl (by decide) (Or.inl (cr_w Z w_51 rfl hU args)) (fun _ h => h) rfl (by decide +kernel) d_AbL_init_6 rfl) ?_
  refine cr_cons (cr_vret_ok hx hb hr hlk d_AbL_init_9) ?_
  exact cr_nil
theorem s_AbL_init {p : Program} {l : Launch} {e : Env} {R : Room} {s : State} {m : MethodId} {args : Array Value} {below : List Frame} {meth : Method} {c : Code} {s0 : State} {D : va_G} {ca : Nat → ClassId} {e0 d mc ms : Nat} {Q : cr_Q} (hl : l.flags = flags0) (Z : cr_Z0 s0 D ca e0) (C : cr_C p R s m meth c (cr_W0 s0) s0.heap.size y_AbL_init c_AbL_init 1 (Option.none : Option FieldType) d mc ms) (hem : c.exceptionTable.toList = []) : ∀ x ∈ t_AbL_init l s0 D ca e0 d mc ms, cr_Snd p l e R s m args below meth c s0.heap.size mc ms Q x.1 x.2 := s_AbL_init_0 hl Z C hem
theorem d_AbC_init_0 : decode c_AbC_init 0 = .ok (.aload_n 0, 1) := by decide +kernel
theorem d_AbC_init_1 : decode c_AbC_init 1 = .ok (.invokespecial 1, 3) := by decide +kernel
theorem d_AbC_init_4 : decode c_AbC_init 4 = .ok (.return_, 1) := by decide +kernel
def t_AbC_init_0 (l : Launch) (s0 : State) (D : va_G) (ca : Nat → ClassId) (e0 d mc ms : Nat) : List (Nat × cr_T) := [(0, cr_aload 0 1),
  (1, cr_oinit d 1 4),
  (4, cr_vret mc ms)]
def t_AbC_init (l : Launch) (s0 : State) (D : va_G) (ca : Nat → ClassId) (e0 d mc ms : Nat) : List (Nat × cr_T) := t_AbC_init_0 l s0 D ca e0 d mc ms
set_option maxHeartbeats 4000000 in
set_option maxRecDepth 20000 in
theorem s_AbC_init_0 {p : Program} {l : Launch} {e : Env} {R : Room} {s : State} {m : MethodId} {args : Array Value} {below : List Frame} {meth : Method} {c : Code} {s0 : State} {D : va_G} {ca : Nat → ClassId} {e0 d mc ms : Nat} {Q : cr_Q} (hl : l.flags = flags0) (Z : cr_Z0 s0 D ca e0) (C : cr_C p R s m meth c (cr_W0 s0) s0.heap.size y_AbC_init c_AbC_init 1 (Option.none : Option FieldType) d mc ms) (hem : c.exceptionTable.toList = []) : ∀ x ∈ t_AbC_init_0 l s0 D ca e0 d mc ms, cr_Snd p l e R s m args below meth c s0.heap.size mc ms Q x.1 x.2 := by
  obtain ⟨hx, hb, hml, hown, hr, hlk, hnm, hU, hlo, hR⟩ := C
  have hK := cr_Z0K Z hU
  have hRc : R.cells = mc := by rw [hR]; rfl
  have hRs : R.slots = ms := by rw [hR]; rfl
  unfold t_AbC_init_0
  refine cr_cons (cr_aload_n_ok hx hb d_AbC_init_0 rfl rfl) ?_
  refine cr_cons (cr_oinit_ok hx hb hml hown hR (cr_w Z w_46 rfl hU args) (cr_w Z w_33 rfl hU args) (cr_w Z w_34 rfl hU args) d_AbC_init_1 rfl) ?_
  refine cr_cons (cr_vret_ok hx hb hr hlk d_AbC_init_4) ?_
  exact cr_nil
theorem s_AbC_init {p : Program} {l : Launch} {e : Env} {R : Room} {s : State} {m : MethodId} {args : Array Value} {below : List Frame} {meth : Method} {c : Code} {s0 : State} {D : va_G} {ca : Nat → ClassId} {e0 d mc ms : Nat} {Q : cr_Q} (hl : l.flags = flags0) (Z : cr_Z0 s0 D ca e0) (C : cr_C p R s m meth c (cr_W0 s0) s0.heap.size y_AbC_init c_AbC_init 1 (Option.none : Option FieldType) d mc ms) (hem : c.exceptionTable.toList = []) : ∀ x ∈ t_AbC_init l s0 D ca e0 d mc ms, cr_Snd p l e R s m args below meth c s0.heap.size mc ms Q x.1 x.2 := s_AbC_init_0 hl Z C hem
theorem d_Ar_fill_0 : decode c_Ar_fill 0 = .ok (.iconst 0, 1) := by decide +kernel
theorem d_Ar_fill_1 : decode c_Ar_fill 1 = .ok (.istore_n 2, 1) := by decide +kernel
theorem d_Ar_fill_2 : decode c_Ar_fill 2 = .ok (.aload_n 0, 1) := by decide +kernel
theorem d_Ar_fill_3 : decode c_Ar_fill 3 = .ok (.arraylength, 1) := by decide +kernel
theorem d_Ar_fill_4 : decode c_Ar_fill 4 = .ok (.istore_n 3, 1) := by decide +kernel
theorem d_Ar_fill_5 : decode c_Ar_fill 5 = .ok (.iload_n 2, 1) := by decide +kernel
theorem d_Ar_fill_6 : decode c_Ar_fill 6 = .ok (.iload_n 3, 1) := by decide +kernel
theorem d_Ar_fill_7 : decode c_Ar_fill 7 = .ok (.if_icmp .ge 13, 3) := by decide +kernel
theorem d_Ar_fill_10 : decode c_Ar_fill 10 = .ok (.aload_n 0, 1) := by decide +kernel
theorem d_Ar_fill_11 : decode c_Ar_fill 11 = .ok (.iload_n 2, 1) := by decide +kernel
theorem d_Ar_fill_12 : decode c_Ar_fill 12 = .ok (.iload_n 1, 1) := by decide +kernel
theorem d_Ar_fill_13 : decode c_Ar_fill 13 = .ok (.iastore, 1) := by decide +kernel
theorem d_Ar_fill_14 : decode c_Ar_fill 14 = .ok (.iinc 2 1, 3) := by decide +kernel
theorem d_Ar_fill_17 : decode c_Ar_fill 17 = .ok (.goto (-12), 3) := by decide +kernel
theorem d_Ar_fill_20 : decode c_Ar_fill 20 = .ok (.return_, 1) := by decide +kernel
def t_Ar_fill_0 (l : Launch) (s0 : State) (D : va_G) (ca : Nat → ClassId) (e0 d mc ms : Nat) : List (Nat × cr_T) := [(0, cr_push (.int 0) 1),
  (1, cr_istore 2 2),
  (2, cr_aload 0 3),
  (3, cr_alen D kc (ca 0) 4),
  (4, cr_istore 3 5),
  (5, cr_iload 2 6),
  (6, cr_iload 3 7),
  (7, cr_icge 20 10),
  (10, cr_aload 0 11),
  (11, cr_iload 2 12),
  (12, cr_iload 1 13),
  (13, cr_iast D kc s0.heap.size (ca 0) 14),
  (14, cr_iinc 2 1 17),
  (17, cr_goto 5),
  (20, cr_vret mc ms)]
def t_Ar_fill (l : Launch) (s0 : State) (D : va_G) (ca : Nat → ClassId) (e0 d mc ms : Nat) : List (Nat × cr_T) := t_Ar_fill_0 l s0 D ca e0 d mc ms
set_option maxHeartbeats 4000000 in
set_option maxRecDepth 20000 in
theorem s_Ar_fill_0 {p : Program} {l : Launch} {e : Env} {R : Room} {s : State} {m : MethodId} {args : Array Value} {below : List Frame} {meth : Method} {c : Code} {s0 : State} {D : va_G} {ca : Nat → ClassId} {e0 d mc ms : Nat} {Q : cr_Q} (hl : l.flags = flags0) (Z : cr_Z0 s0 D ca e0) (C : cr_C p R s m meth c (cr_W0 s0) s0.heap.size y_Ar_fill c_Ar_fill 4 (Option.none : Option FieldType) d mc ms) (hem : c.exceptionTable.toList = []) : ∀ x ∈ t_Ar_fill_0 l s0 D ca e0 d mc ms, cr_Snd p l e R s m args below meth c s0.heap.size mc ms Q x.1 x.2 := by
  obtain ⟨hx, hb, hml, hown, hr, hlk, hnm, hU, hlo, hR⟩ := C
  have hK := cr_Z0K Z hU
  have hRc : R.cells = mc := by rw [hR]; rfl
  have hRs : R.slots = ms := by rw [hR]; rfl
  unfold t_Ar_fill_0
  refine cr_cons (cr_iconst_ok hx hb d_Ar_fill_0 (by decide) rfl) ?_
  refine cr_cons (cr_istore_n_ok hx hb d_Ar_fill_1 rfl rfl) ?_
  refine cr_cons (cr_aload_n_ok hx hb d_Ar_fill_2 rfl rfl) ?_
  refine cr_cons (cr_alen_ok (t0 := 0) hx hb hK rfl d_Ar_fill_3 rfl) ?_
  refine cr_cons (cr_istore_n_ok hx hb d_Ar_fill_4 rfl rfl) ?_
  refine cr_cons (cr_iload_n_ok hx hb d_Ar_fill_5 rfl rfl) ?_
  refine cr_cons (cr_iload_n_ok hx hb d_Ar_fill_6 rfl rfl) ?_
  refine cr_cons (cr_icge_ok hx hb d_Ar_fill_7 (by decide) rfl) ?_
  refine cr_cons (cr_aload_n_ok hx hb d_Ar_fill_10 rfl rfl) ?_
  refine cr_cons (cr_iload_n_ok hx hb d_Ar_fill_11 rfl rfl) ?_
  refine cr_cons (cr_iload_n_ok hx hb d_Ar_fill_12 rfl rfl) ?_
  refine cr_cons (cr_iast_ok (t0 := 0) hx hb hK rfl d_Ar_fill_13 rfl) ?_
  refine cr_cons (cr_iinc_ok hx hb d_Ar_fill_14 (by decide) rfl) ?_
  refine cr_cons (cr_goto_ok hx hb d_Ar_fill_17 (by decide)) ?_
  refine cr_cons (cr_vret_ok hx hb hr hlk d_Ar_fill_20) ?_
  exact cr_nil
theorem s_Ar_fill {p : Program} {l : Launch} {e : Env} {R : Room} {s : State} {m : MethodId} {args : Array Value} {below : List Frame} {meth : Method} {c : Code} {s0 : State} {D : va_G} {ca : Nat → ClassId} {e0 d mc ms : Nat} {Q : cr_Q} (hl : l.flags = flags0) (Z : cr_Z0 s0 D ca e0) (C : cr_C p R s m meth c (cr_W0 s0) s0.heap.size y_Ar_fill c_Ar_fill 4 (Option.none : Option FieldType) d mc ms) (hem : c.exceptionTable.toList = []) : ∀ x ∈ t_Ar_fill l s0 D ca e0 d mc ms, cr_Snd p l e R s m args below meth c s0.heap.size mc ms Q x.1 x.2 := s_Ar_fill_0 hl Z C hem
theorem d_AL_size_0 : decode c_AL_size 0 = .ok (.aload_n 0, 1) := by decide +kernel
theorem d_AL_size_1 : decode c_AL_size 1 = .ok (.getfield 48, 3) := by decide +kernel
theorem d_AL_size_4 : decode c_AL_size 4 = .ok (.ireturn, 1) := by decide +kernel
def t_AL_size_0 (l : Launch) (s0 : State) (D : va_G) (ca : Nat → ClassId) (e0 d mc ms : Nat) : List (Nat × cr_T) := [(0, cr_aload 0 1),
  (1, cr_getf D kc 12 1 4),
  (4, cr_iret mc ms)]
def t_AL_size (l : Launch) (s0 : State) (D : va_G) (ca : Nat → ClassId) (e0 d mc ms : Nat) : List (Nat × cr_T) := t_AL_size_0 l s0 D ca e0 d mc ms
set_option maxHeartbeats 4000000 in
set_option maxRecDepth 20000 in
theorem s_AL_size_0 {p : Program} {l : Launch} {e : Env} {R : Room} {s : State} {m : MethodId} {args : Array Value} {below : List Frame} {meth : Method} {c : Code} {s0 : State} {D : va_G} {ca : Nat → ClassId} {e0 d mc ms : Nat} {Q : cr_Q} (hl : l.flags = flags0) (Z : cr_Z0 s0 D ca e0) (C : cr_C p R s m meth c (cr_W0 s0) s0.heap.size y_AL_size c_AL_size 1 (Option.some FieldType.int) d mc ms) (hem : c.exceptionTable.toList = []) : ∀ x ∈ t_AL_size_0 l s0 D ca e0 d mc ms, cr_Snd p l e R s m args below meth c s0.heap.size mc ms Q x.1 x.2 := by
  obtain ⟨hx, hb, hml, hown, hr, hlk, hnm, hU, hlo, hR⟩ := C
  have hK := cr_Z0K Z hU
  have hRc : R.cells = mc := by rw [hR]; rfl
  have hRs : R.slots = ms := by rw [hR]; rfl
  unfold t_AL_size_0
  refine cr_cons (cr_aload_n_ok hx hb d_AL_size_0 rfl rfl) ?_
  refine cr_cons (cr_getf_ok (C := R_AL) (T := T_AL) (N := 3) hx hb (k_AL Z hU args) (fun _ h => h) hown hK rfl (by decide) (cr_w Z w_50 rfl hU args) (fun _ h => h) d_AL_size_1 rfl) ?_
  refine cr_cons (cr_iret_ok hx hb hr hlk d_AL_size_4) ?_
  exact cr_nil
theorem s_AL_size {p : Program} {l : Launch} {e : Env} {R : Room} {s : State} {m : MethodId} {args : Array Value} {below : List Frame} {meth : Method} {c : Code} {s0 : State} {D : va_G} {ca : Nat → ClassId} {e0 d mc ms : Nat} {Q : cr_Q} (hl : l.flags = flags0) (Z : cr_Z0 s0 D ca e0) (C : cr_C p R s m meth c (cr_W0 s0) s0.heap.size y_AL_size c_AL_size 1 (Option.some FieldType.int) d mc ms) (hem : c.exceptionTable.toList = []) : ∀ x ∈ t_AL_size l s0 D ca e0 d mc ms, cr_Snd p l e R s m args below meth c s0.heap.size mc ms Q x.1 x.2 := s_AL_size_0 hl Z C hem
theorem d_AL_get_0 : decode c_AL_get 0 = .ok (.iload_n 1, 1) := by decide +kernel
theorem d_AL_get_1 : decode c_AL_get 1 = .ok (.aload_n 0, 1) := by decide +kernel
theorem d_AL_get_2 : decode c_AL_get 2 = .ok (.getfield 48, 3) := by decide +kernel
theorem d_AL_get_5 : decode c_AL_get 5 = .ok (.invokestatic 118, 3) := by decide +kernel
theorem d_AL_get_8 : decode c_AL_get 8 = .ok (.pop, 1) := by decide +kernel
theorem d_AL_get_9 : decode c_AL_get 9 = .ok (.aload_n 0, 1) := by decide +kernel
theorem d_AL_get_10 : decode c_AL_get 10 = .ok (.iload_n 1, 1) := by decide +kernel
theorem d_AL_get_11 : decode c_AL_get 11 = .ok (.invokevirtual 123, 3) := by decide +kernel
theorem d_AL_get_14 : decode c_AL_get 14 = .ok (.areturn, 1) := by decide +kernel
def t_AL_get_0 (l : Launch) (s0 : State) (D : va_G) (ca : Nat → ClassId) (e0 d mc ms : Nat) : List (Nat × cr_T) := [(0, cr_iload 1 1),
  (1, cr_aload 0 2),
  (2, cr_getf D kc 12 1 5),
  (5, cr_calS l (cr_W0 s0) s0.heap.size y_Ob_checkIndex cw_Ob_checkIndex d mc ms 2 2 8),
  (8, cr_pop 9),
  (9, cr_aload 0 10),
  (10, cr_iload 1 11),
  (11, cr_calV D kc l (cr_W0 s0) s0.heap.size 12 y_AL_elementData cw_AL_elementData d mc ms 1 2 14),
  (14, cr_aret mc ms)]
def t_AL_get (l : Launch) (s0 : State) (D : va_G) (ca : Nat → ClassId) (e0 d mc ms : Nat) : List (Nat × cr_T) := t_AL_get_0 l s0 D ca e0 d mc ms
set_option maxHeartbeats 4000000 in
set_option maxRecDepth 20000 in
theorem s_AL_get_0 {p : Program} {l : Launch} {e : Env} {R : Room} {s : State} {m : MethodId} {args : Array Value} {below : List Frame} {meth : Method} {c : Code} {s0 : State} {D : va_G} {ca : Nat → ClassId} {e0 d mc ms : Nat} {Q : cr_Q} (hl : l.flags = flags0) (Z : cr_Z0 s0 D ca e0) (C : cr_C p R s m meth c (cr_W0 s0) s0.heap.size y_AL_get c_AL_get 2 (Option.some (FieldType.object "java/lang/Object")) d mc ms) (hem : c.exceptionTable.toList = []) : ∀ x ∈ t_AL_get_0 l s0 D ca e0 d mc ms, cr_Snd p l e R s m args below meth c s0.heap.size mc ms Q x.1 x.2 := by
  obtain ⟨hx, hb, hml, hown, hr, hlk, hnm, hU, hlo, hR⟩ := C
  have hK := cr_Z0K Z hU
  have hRc : R.cells = mc := by rw [hR]; rfl
  have hRs : R.slots = ms := by rw [hR]; rfl
  unfold t_AL_get_0
  refine cr_cons (cr_iload_n_ok hx hb d_AL_get_0 rfl rfl) ?_
  refine cr_cons (cr_aload_n_ok hx hb d_AL_get_1 rfl rfl) ?_
  refine cr_cons (cr_getf_ok (C := R_AL) (T := T_AL) (N := 3) hx hb (k_AL Z hU args) (fun _ h => h) hown hK rfl (by decide) (cr_w Z w_50 rfl hU args) (fun _ h => h) d_AL_get_2 rfl) ?_
  refine cr_cons (cr_calS_ok hx hb hml hown hlk hU hlo hR (cr_W0_st s0) (by rw [hem]; exact fun _ h => absurd h List.not_mem_nil) (u_Ob_checkIndex Z) (Or.inl (cr_w Z w_211 rfl hU args)) (cr_w Z w_212 rfl hU args) (by decide) (by decide +kernel) (by decide) d_AL_get_5 rfl) ?_
  refine cr_cons (cr_pop_ok hx hb d_AL_get_8 rfl) ?_
  refine cr_cons (cr_aload_n_ok hx hb d_AL_get_9 rfl rfl) ?_
  refine cr_cons (cr_iload_n_ok hx hb d_AL_get_10 rfl rfl) ?_
  refine cr_cons (cr_calV_ok (C := R_AL) (Tf := T_AL) (N := 3) hx hb hml hown hlk hU hlo hR (cr_W0_st s0) (by rw [hem]; exact fun _ h => absurd h List.not_mem_nil) hK rfl (u_AL_elementData Z) (Or.inl (cr_w Z w_217 rfl hU args)) (cr_w Z w_218 rfl hU args) (cr_w Z w_219 rfl hU args) (by decide) (by decide +kernel) (by decide) d_AL_get_11 rfl) ?_
  refine cr_cons (cr_aret_ok hx hb hr (Or.inl ⟨_, rfl⟩) hlk d_AL_get_14) ?_
  exact cr_nil
theorem s_AL_get {p : Program} {l : Launch} {e : Env} {R : Room} {s : State} {m : MethodId} {args : Array Value} {below : List Frame} {meth : Method} {c : Code} {s0 : State} {D : va_G} {ca : Nat → ClassId} {e0 d mc ms : Nat} {Q : cr_Q} (hl : l.flags = flags0) (Z : cr_Z0 s0 D ca e0) (C : cr_C p R s m meth c (cr_W0 s0) s0.heap.size y_AL_get c_AL_get 2 (Option.some (FieldType.object "java/lang/Object")) d mc ms) (hem : c.exceptionTable.toList = []) : ∀ x ∈ t_AL_get l s0 D ca e0 d mc ms, cr_Snd p l e R s m args below meth c s0.heap.size mc ms Q x.1 x.2 := s_AL_get_0 hl Z C hem
theorem d_Ob_checkIndex_0 : decode c_Ob_checkIndex 0 = .ok (.iload_n 0, 1) := by decide +kernel
theorem d_Ob_checkIndex_1 : decode c_Ob_checkIndex 1 = .ok (.iload_n 1, 1) := by decide +kernel
theorem d_Ob_checkIndex_2 : decode c_Ob_checkIndex 2 = .ok (.aconst_null, 1) := by decide +kernel
theorem d_Ob_checkIndex_3 : decode c_Ob_checkIndex 3 = .ok (.invokestatic 105, 3) := by decide +kernel
theorem d_Ob_checkIndex_6 : decode c_Ob_checkIndex 6 = .ok (.ireturn, 1) := by decide +kernel
def t_Ob_checkIndex_0 (l : Launch) (s0 : State) (D : va_G) (ca : Nat → ClassId) (e0 d mc ms : Nat) : List (Nat × cr_T) := [(0, cr_iload 0 1),
  (1, cr_iload 1 2),
  (2, cr_push .null 3),
  (3, cr_calS l (cr_W0 s0) s0.heap.size y_Pr_checkIndex cw_Pr_checkIndex d mc ms 3 2 6),
  (6, cr_iret mc ms)]
def t_Ob_checkIndex (l : Launch) (s0 : State) (D : va_G) (ca : Nat → ClassId) (e0 d mc ms : Nat) : List (Nat × cr_T) := t_Ob_checkIndex_0 l s0 D ca e0 d mc ms
set_option maxHeartbeats 4000000 in
set_option maxRecDepth 20000 in
theorem s_Ob_checkIndex_0 {p : Program} {l : Launch} {e : Env} {R : Room} {s : State} {m : MethodId} {args : Array Value} {below : List Frame} {meth : Method} {c : Code} {s0 : State} {D : va_G} {ca : Nat → ClassId} {e0 d mc ms : Nat} {Q : cr_Q} (hl : l.flags = flags0) (Z : cr_Z0 s0 D ca e0) (C : cr_C p R s m meth c (cr_W0 s0) s0.heap.size y_Ob_checkIndex c_Ob_checkIndex 2 (Option.some FieldType.int) d mc ms) (hem : c.exceptionTable.toList = []) : ∀ x ∈ t_Ob_checkIndex_0 l s0 D ca e0 d mc ms, cr_Snd p l e R s m args below meth c s0.heap.size mc ms Q x.1 x.2 := by
  obtain ⟨hx, hb, hml, hown, hr, hlk, hnm, hU, hlo, hR⟩ := C
  have hK := cr_Z0K Z hU
  have hRc : R.cells = mc := by rw [hR]; rfl
  have hRs : R.slots = ms := by rw [hR]; rfl
  unfold t_Ob_checkIndex_0
  refine cr_cons (cr_iload_n_ok hx hb d_Ob_checkIndex_0 rfl rfl) ?_
  refine cr_cons (cr_iload_n_ok hx hb d_Ob_checkIndex_1 rfl rfl) ?_
  refine cr_cons (cr_null_ok hx hb d_Ob_checkIndex_2 rfl) ?_
  refine cr_cons (cr_calS_ok hx hb hml hown hlk hU hlo hR (cr_W0_st s0) (by rw [hem]; exact fun _ h => absurd h List.not_mem_nil) (u_Pr_checkIndex Z) (Or.inl (cr_w Z w_214 rfl hU args)) (cr_w Z w_215 rfl hU args) (by decide) (by decide +kernel) (by decide) d_Ob_checkIndex_3 rfl) ?_
  refine cr_cons (cr_iret_ok hx hb hr hlk d_Ob_checkIndex_6) ?_
  exact cr_nil
theorem s_Ob_checkIndex {p : Program} {l : Launch} {e : Env} {R : Room} {s : State} {m : MethodId} {args : Array Value} {below : List Frame} {meth : Method} {c : Code} {s0 : State} {D : va_G} {ca : Nat → ClassId} {e0 d mc ms : Nat} {Q : cr_Q} (hl : l.flags = flags0) (Z : cr_Z0 s0 D ca e0) (C : cr_C p R s m meth c (cr_W0 s0) s0.heap.size y_Ob_checkIndex c_Ob_checkIndex 2 (Option.some FieldType.int) d mc ms) (hem : c.exceptionTable.toList = []) : ∀ x ∈ t_Ob_checkIndex l s0 D ca e0 d mc ms, cr_Snd p l e R s m args below meth c s0.heap.size mc ms Q x.1 x.2 := s_Ob_checkIndex_0 hl Z C hem
theorem d_Pr_checkIndex_0 : decode c_Pr_checkIndex 0 = .ok (.iload_n 0, 1) := by decide +kernel
theorem d_Pr_checkIndex_1 : decode c_Pr_checkIndex 1 = .ok (.ifCond .lt 8, 3) := by decide +kernel
theorem d_Pr_checkIndex_4 : decode c_Pr_checkIndex 4 = .ok (.iload_n 0, 1) := by decide +kernel
theorem d_Pr_checkIndex_5 : decode c_Pr_checkIndex 5 = .ok (.iload_n 1, 1) := by decide +kernel
theorem d_Pr_checkIndex_6 : decode c_Pr_checkIndex 6 = .ok (.if_icmp .lt 10, 3) := by decide +kernel
theorem d_Pr_checkIndex_16 : decode c_Pr_checkIndex 16 = .ok (.iload_n 0, 1) := by decide +kernel
theorem d_Pr_checkIndex_17 : decode c_Pr_checkIndex 17 = .ok (.ireturn, 1) := by decide +kernel
def t_Pr_checkIndex_0 (l : Launch) (s0 : State) (D : va_G) (ca : Nat → ClassId) (e0 d mc ms : Nat) : List (Nat × cr_T) := [(0, cr_iload 0 1),
  (1, cr_iflt 9 4),
  (4, cr_iload 0 5),
  (5, cr_iload 1 6),
  (6, cr_iclt 16 9),
  (16, cr_iload 0 17),
  (17, cr_iret mc ms)]
def t_Pr_checkIndex (l : Launch) (s0 : State) (D : va_G) (ca : Nat → ClassId) (e0 d mc ms : Nat) : List (Nat × cr_T) := t_Pr_checkIndex_0 l s0 D ca e0 d mc ms
set_option maxHeartbeats 4000000 in
set_option maxRecDepth 20000 in
theorem s_Pr_checkIndex_0 {p : Program} {l : Launch} {e : Env} {R : Room} {s : State} {m : MethodId} {args : Array Value} {below : List Frame} {meth : Method} {c : Code} {s0 : State} {D : va_G} {ca : Nat → ClassId} {e0 d mc ms : Nat} {Q : cr_Q} (hl : l.flags = flags0) (Z : cr_Z0 s0 D ca e0) (C : cr_C p R s m meth c (cr_W0 s0) s0.heap.size y_Pr_checkIndex c_Pr_checkIndex 3 (Option.some FieldType.int) d mc ms) (hem : c.exceptionTable.toList = []) : ∀ x ∈ t_Pr_checkIndex_0 l s0 D ca e0 d mc ms, cr_Snd p l e R s m args below meth c s0.heap.size mc ms Q x.1 x.2 := by
  obtain ⟨hx, hb, hml, hown, hr, hlk, hnm, hU, hlo, hR⟩ := C
  have hK := cr_Z0K Z hU
  have hRc : R.cells = mc := by rw [hR]; rfl
  have hRs : R.slots = ms := by rw [hR]; rfl
  unfold t_Pr_checkIndex_0
  refine cr_cons (cr_iload_n_ok hx hb d_Pr_checkIndex_0 rfl rfl) ?_
  refine cr_cons (cr_iflt_ok hx hb d_Pr_checkIndex_1 (by decide) rfl) ?_
  refine cr_cons (cr_iload_n_ok hx hb d_Pr_checkIndex_4 rfl rfl) ?_
  refine cr_cons (cr_iload_n_ok hx hb d_Pr_checkIndex_5 rfl rfl) ?_
  refine cr_cons (cr_iclt_ok hx hb d_Pr_checkIndex_6 (by decide) rfl) ?_
  refine cr_cons (cr_iload_n_ok hx hb d_Pr_checkIndex_16 rfl rfl) ?_
  refine cr_cons (cr_iret_ok hx hb hr hlk d_Pr_checkIndex_17) ?_
  exact cr_nil
theorem s_Pr_checkIndex {p : Program} {l : Launch} {e : Env} {R : Room} {s : State} {m : MethodId} {args : Array Value} {below : List Frame} {meth : Method} {c : Code} {s0 : State} {D : va_G} {ca : Nat → ClassId} {e0 d mc ms : Nat} {Q : cr_Q} (hl : l.flags = flags0) (Z : cr_Z0 s0 D ca e0) (C : cr_C p R s m meth c (cr_W0 s0) s0.heap.size y_Pr_checkIndex c_Pr_checkIndex 3 (Option.some FieldType.int) d mc ms) (hem : c.exceptionTable.toList = []) : ∀ x ∈ t_Pr_checkIndex l s0 D ca e0 d mc ms, cr_Snd p l e R s m args below meth c s0.heap.size mc ms Q x.1 x.2 := s_Pr_checkIndex_0 hl Z C hem
theorem d_AL_elementData_0 : decode c_AL_elementData 0 = .ok (.aload_n 0, 1) := by decide +kernel
theorem d_AL_elementData_1 : decode c_AL_elementData 1 = .ok (.getfield 9, 3) := by decide +kernel
theorem d_AL_elementData_4 : decode c_AL_elementData 4 = .ok (.iload_n 1, 1) := by decide +kernel
theorem d_AL_elementData_5 : decode c_AL_elementData 5 = .ok (.aaload, 1) := by decide +kernel
theorem d_AL_elementData_6 : decode c_AL_elementData 6 = .ok (.areturn, 1) := by decide +kernel
def t_AL_elementData_0 (l : Launch) (s0 : State) (D : va_G) (ca : Nat → ClassId) (e0 d mc ms : Nat) : List (Nat × cr_T) := [(0, cr_aload 0 1),
  (1, cr_getf D kc 12 0 4),
  (4, cr_iload 1 5),
  (5, cr_aald D kc (ca 3) 6),
  (6, cr_aret mc ms)]
def t_AL_elementData (l : Launch) (s0 : State) (D : va_G) (ca : Nat → ClassId) (e0 d mc ms : Nat) : List (Nat × cr_T) := t_AL_elementData_0 l s0 D ca e0 d mc ms
set_option maxHeartbeats 4000000 in
set_option maxRecDepth 20000 in
theorem s_AL_elementData_0 {p : Program} {l : Launch} {e : Env} {R : Room} {s : State} {m : MethodId} {args : Array Value} {below : List Frame} {meth : Method} {c : Code} {s0 : State} {D : va_G} {ca : Nat → ClassId} {e0 d mc ms : Nat} {Q : cr_Q} (hl : l.flags = flags0) (Z : cr_Z0 s0 D ca e0) (C : cr_C p R s m meth c (cr_W0 s0) s0.heap.size y_AL_elementData c_AL_elementData 2 (Option.some (FieldType.object "java/lang/Object")) d mc ms) (hem : c.exceptionTable.toList = []) : ∀ x ∈ t_AL_elementData_0 l s0 D ca e0 d mc ms, cr_Snd p l e R s m args below meth c s0.heap.size mc ms Q x.1 x.2 := by
  obtain ⟨hx, hb, hml, hown, hr, hlk, hnm, hU, hlo, hR⟩ := C
  have hK := cr_Z0K Z hU
  have hRc : R.cells = mc := by rw [hR]; rfl
  have hRs : R.slots = ms := by rw [hR]; rfl
  unfold t_AL_elementData_0
  refine cr_cons (cr_aload_n_ok hx hb d_AL_elementData_0 rfl rfl) ?_
  refine cr_cons (cr_getf_ok (C := R_AL) (T := T_AL) (N := 3) hx hb (k_AL Z hU args) (fun _ h => h) hown hK rfl (by decide) (cr_w Z w_49 rfl hU args) (fun _ h => h) d_AL_elementData_1 rfl) ?_
  refine cr_cons (cr_iload_n_ok hx hb d_AL_elementData_4 rfl rfl) ?_
  refine cr_cons (cr_aald_ok (t0 := 3) hx hb hK rfl d_AL_elementData_5 rfl) ?_
  refine cr_cons (cr_aret_ok hx hb hr (Or.inl ⟨_, rfl⟩) hlk d_AL_elementData_6) ?_
  exact cr_nil
theorem s_AL_elementData {p : Program} {l : Launch} {e : Env} {R : Room} {s : State} {m : MethodId} {args : Array Value} {below : List Frame} {meth : Method} {c : Code} {s0 : State} {D : va_G} {ca : Nat → ClassId} {e0 d mc ms : Nat} {Q : cr_Q} (hl : l.flags = flags0) (Z : cr_Z0 s0 D ca e0) (C : cr_C p R s m meth c (cr_W0 s0) s0.heap.size y_AL_elementData c_AL_elementData 2 (Option.some (FieldType.object "java/lang/Object")) d mc ms) (hem : c.exceptionTable.toList = []) : ∀ x ∈ t_AL_elementData l s0 D ca e0 d mc ms, cr_Snd p l e R s m args below meth c s0.heap.size mc ms Q x.1 x.2 := s_AL_elementData_0 hl Z C hem
theorem d_AL_add0_0 : decode c_AL_add0 0 = .ok (.aload_n 0, 1) := by decide +kernel
theorem d_AL_add0_1 : decode c_AL_add0 1 = .ok (.dup, 1) := by decide +kernel
theorem d_AL_add0_2 : decode c_AL_add0 2 = .ok (.getfield 63, 3) := by decide +kernel
theorem d_AL_add0_5 : decode c_AL_add0 5 = .ok (.iconst 1, 1) := by decide +kernel
theorem d_AL_add0_6 : decode c_AL_add0 6 = .ok (.iadd, 1) := by decide +kernel
theorem d_AL_add0_7 : decode c_AL_add0 7 = .ok (.putfield 63, 3) := by decide +kernel
theorem d_AL_add0_10 : decode c_AL_add0 10 = .ok (.aload_n 0, 1) := by decide +kernel
theorem d_AL_add0_11 : decode c_AL_add0 11 = .ok (.aload_n 1, 1) := by decide +kernel
theorem d_AL_add0_12 : decode c_AL_add0 12 = .ok (.aload_n 0, 1) := by decide +kernel
theorem d_AL_add0_13 : decode c_AL_add0 13 = .ok (.getfield 9, 3) := by decide +kernel
theorem d_AL_add0_16 : decode c_AL_add0 16 = .ok (.aload_n 0, 1) := by decide +kernel
theorem d_AL_add0_17 : decode c_AL_add0 17 = .ok (.getfield 48, 3) := by decide +kernel
theorem d_AL_add0_20 : decode c_AL_add0 20 = .ok (.invokevirtual 131, 3) := by decide +kernel
theorem d_AL_add0_23 : decode c_AL_add0 23 = .ok (.iconst 1, 1) := by decide +kernel
theorem d_AL_add0_24 : decode c_AL_add0 24 = .ok (.ireturn, 1) := by decide +kernel
def t_AL_add0_0 (l : Launch) (s0 : State) (D : va_G) (ca : Nat → ClassId) (e0 d mc ms : Nat) : List (Nat × cr_T) := [(0, cr_aload 0 1),
  (1, cr_dup 2),
  (2, cr_getf D kc 12 2 5),
  (5, cr_push (.int 1) 6),
  (6, cr_iadd 7),
  (7, cr_putf D kc s0.heap.size 12 2 .int 10),
  (10, cr_aload 0 11),
  (11, cr_aload 1 12),
  (12, cr_aload 0 13),
  (13, cr_getf D kc 12 0 16),
  (16, cr_aload 0 17),
  (17, cr_getf D kc 12 1 20),
  (20, cr_calV D kc l (cr_W0 s0) s0.heap.size 12 y_AL_add1 cw_AL_add1 d mc ms 3 2 23),
  (23, cr_push (.int 1) 24),
  (24, cr_zret mc ms .boolean)]
def t_AL_add0 (l : Launch) (s0 : State) (D : va_G) (ca : Nat → ClassId) (e0 d mc ms : Nat) : List (Nat × cr_T) := t_AL_add0_0 l s0 D ca e0 d mc ms
set_option maxHeartbeats 4000000 in
set_option maxRecDepth 20000 in
theorem s_AL_add0_0 {p : Program} {l : Launch} {e : Env} {R : Room} {s : State} {m : MethodId} {args : Array Value} {below : List Frame} {meth : Method} {c : Code} {s0 : State} {D : va_G} {ca : Nat → ClassId} {e0 d mc ms : Nat} {Q : cr_Q} (hl : l.flags = flags0) (Z : cr_Z0 s0 D ca e0) (C : cr_C p R s m meth c (cr_W0 s0) s0.heap.size y_AL_add0 c_AL_add0 2 (Option.some FieldType.boolean) d mc ms) (hem : c.exceptionTable.toList = []) : ∀ x ∈ t_AL_add0_0 l s0 D ca e0 d mc ms, cr_Snd p l e R s m args below meth c s0.heap.size mc ms Q x.1 x.2 := by
  obtain ⟨hx, hb, hml, hown, hr, hlk, hnm, hU, hlo, hR⟩ := C
  have hK := cr_Z0K Z hU
  have hRc : R.cells = mc := by rw [hR]; rfl
  have hRs : R.slots = ms := by rw [hR]; rfl
  unfold t_AL_add0_0
  refine cr_cons (cr_aload_n_ok hx hb d_AL_add0_0 rfl rfl) ?_
  refine cr_cons (cr_dup_ok hx hb d_AL_add0_1 rfl) ?_
  refine cr_cons (cr_getf_ok (C := R_AL) (T := T_AL) (N := 3) hx hb (k_AL Z hU args) (fun _ h => h) hown hK rfl (by decide) (cr_w Z w_52 rfl hU args) (fun x9 h9 => u_same (cr_w Z w_53 rfl hU args) x9 h9) d_AL_add0_2 rfl) ?_
  refine cr_cons (cr_iconst_ok hx hb d_AL_add0_5 (by decide) rfl) ?_
  refine cr_cons (cr_iadd_ok hx hb d_AL_add0_6 rfl) ?_
  refine cr_cons (cr_putf_ok (C := R_AL) (T := T_AL) (N := 3) tt_AL hx hb (k_AL Z hU args) (fun _ h => h) ty_AL nm_AL hown hK rfl (by decide) (Or.inl (cr_w Z w_52 rfl hU args)) (fun x9 h9 => u_same (cr_w Z w_53 rfl hU args) x9 h9) rfl (by decide +kernel) d_AL_add0_7 rfl) ?_
  refine cr_cons (cr_aload_n_ok hx hb d_AL_add0_10 rfl rfl) ?_
  refine cr_cons (cr_aload_n_ok hx hb d_AL_add0_11 rfl rfl) ?_
  refine cr_cons (cr_aload_n_ok hx hb d_AL_add0_12 rfl rfl) ?_
  refine cr_cons (cr_getf_ok (C := R_AL) (T := T_AL) (N := 3) hx hb (k_AL Z hU args) (fun _ h => h) hown hK rfl (by decide) (cr_w Z w_49 rfl hU args) (fun _ h => h) d_AL_add0_13 rfl) ?_
  refine cr_cons (cr_aload_n_ok hx hb d_AL_add0_16 rfl rfl) ?_
  refine cr_cons (cr_getf_ok (C := R_AL) (T := T_AL) (N := 3) hx hb (k_AL Z hU args) (fun _ h => h) hown hK rfl (by decide) (cr_w Z w_50 rfl hU args) (fun _ h => h) d_AL_add0_17 rfl) ?_
  refine cr_cons (cr_calV_ok (C := R_AL) (Tf := T_AL) (N := 3) hx hb hml hown hlk hU hlo hR (cr_W0_st s0) (by rw [hem]; exact fun _ h => absurd h List.not_mem_nil) hK rfl (u_AL_add1 Z) (Or.inl (cr_w Z w_370 rfl hU args)) (cr_w Z w_372 rfl hU args) (cr_w Z ws_9 rfl hU args) (by decide) (by decide +kernel) (by decide) d_AL_add0_20 rfl) ?_
  refine cr_cons (cr_iconst_ok hx hb d_AL_add0_23 (by decide) rfl) ?_
  refine cr_cons (cr_zret_ok hx hb hr hlk d_AL_add0_24) ?_
  exact cr_nil
theorem s_AL_add0 {p : Program} {l : Launch} {e : Env} {R : Room} {s : State} {m : MethodId} {args : Array Value} {below : List Frame} {meth : Method} {c : Code} {s0 : State} {D : va_G} {ca : Nat → ClassId} {e0 d mc ms : Nat} {Q : cr_Q} (hl : l.flags = flags0) (Z : cr_Z0 s0 D ca e0) (C : cr_C p R s m meth c (cr_W0 s0) s0.heap.size y_AL_add0 c_AL_add0 2 (Option.some FieldType.boolean) d mc ms) (hem : c.exceptionTable.toList = []) : ∀ x ∈ t_AL_add0 l s0 D ca e0 d mc ms, cr_Snd p l e R s m args below meth c s0.heap.size mc ms Q x.1 x.2 := s_AL_add0_0 hl Z C hem
theorem d_AL_add1_0 : decode c_AL_add1 0 = .ok (.iload_n 3, 1) := by decide +kernel
theorem d_AL_add1_1 : decode c_AL_add1 1 = .ok (.aload_n 2, 1) := by decide +kernel
theorem d_AL_add1_2 : decode c_AL_add1 2 = .ok (.arraylength, 1) := by decide +kernel
theorem d_AL_add1_3 : decode c_AL_add1 3 = .ok (.if_icmp .ne 8, 3) := by decide +kernel
theorem d_AL_add1_6 : decode c_AL_add1 6 = .ok (.aload_n 0, 1) := by decide +kernel
theorem d_AL_add1_7 : decode c_AL_add1 7 = .ok (.invokevirtual 129, 3) := by decide +kernel
theorem d_AL_add1_10 : decode c_AL_add1 10 = .ok (.astore_n 2, 1) := by decide +kernel
theorem d_AL_add1_11 : decode c_AL_add1 11 = .ok (.aload_n 2, 1) := by decide +kernel
theorem d_AL_add1_12 : decode c_AL_add1 12 = .ok (.iload_n 3, 1) := by decide +kernel
theorem d_AL_add1_13 : decode c_AL_add1 13 = .ok (.aload_n 1, 1) := by decide +kernel
theorem d_AL_add1_14 : decode c_AL_add1 14 = .ok (.aastore, 1) := by decide +kernel
theorem d_AL_add1_15 : decode c_AL_add1 15 = .ok (.aload_n 0, 1) := by decide +kernel
theorem d_AL_add1_16 : decode c_AL_add1 16 = .ok (.iload_n 3, 1) := by decide +kernel
theorem d_AL_add1_17 : decode c_AL_add1 17 = .ok (.iconst 1, 1) := by decide +kernel
theorem d_AL_add1_18 : decode c_AL_add1 18 = .ok (.iadd, 1) := by decide +kernel
theorem d_AL_add1_19 : decode c_AL_add1 19 = .ok (.putfield 48, 3) := by decide +kernel
theorem d_AL_add1_22 : decode c_AL_add1 22 = .ok (.return_, 1) := by decide +kernel
def t_AL_add1_0 (l : Launch) (s0 : State) (D : va_G) (ca : Nat → ClassId) (e0 d mc ms : Nat) : List (Nat × cr_T) := [(0, cr_iload 3 1),
  (1, cr_aload 2 2),
  (2, cr_aleE s0 D kc (ca 3) e0 3),
  (3, cr_icne 11 6),
  (6, cr_aload 0 7),
  (7, cr_calV D kc l (cr_W0 s0) s0.heap.size 12 y_AL_grow0 cw_AL_grow0 d mc ms 0 4 10),
  (10, cr_astore 2 11),
  (11, cr_aload 2 12),
  (12, cr_iload 3 13),
  (13, cr_aload 1 14),
  (14, cr_aast D kc s0.heap.size (ca 3) cs_obj 15),
  (15, cr_aload 0 16),
  (16, cr_iload 3 17),
  (17, cr_push (.int 1) 18),
  (18, cr_iadd 19),
  (19, cr_putf D kc s0.heap.size 12 1 .int 22),
  (22, cr_vret mc ms)]
def t_AL_add1 (l : Launch) (s0 : State) (D : va_G) (ca : Nat → ClassId) (e0 d mc ms : Nat) : List (Nat × cr_T) := t_AL_add1_0 l s0 D ca e0 d mc ms
set_option maxHeartbeats 4000000 in
set_option maxRecDepth 20000 in
theorem s_AL_add1_0 {p : Program} {l : Launch} {e : Env} {R : Room} {s : State} {m : MethodId} {args : Array Value} {below : List Frame} {meth : Method} {c : Code} {s0 : State} {D : va_G} {ca : Nat → ClassId} {e0 d mc ms : Nat} {Q : cr_Q} (hl : l.flags = flags0) (Z : cr_Z0 s0 D ca e0) (C : cr_C p R s m meth c (cr_W0 s0) s0.heap.size y_AL_add1 c_AL_add1 4 (Option.none : Option FieldType) d mc ms) (hem : c.exceptionTable.toList = []) : ∀ x ∈ t_AL_add1_0 l s0 D ca e0 d mc ms, cr_Snd p l e R s m args below meth c s0.heap.size mc ms Q x.1 x.2 := by
  obtain ⟨hx, hb, hml, hown, hr, hlk, hnm, hU, hlo, hR⟩ := C
  have hK := cr_Z0K Z hU
  have hRc : R.cells = mc := by rw [hR]; rfl
  have hRs : R.slots = ms := by rw [hR]; rfl
  unfold t_AL_add1_0
  refine cr_cons (cr_iload_n_ok hx hb d_AL_add1_0 rfl rfl) ?_
  refine cr_cons (cr_aload_n_ok hx hb d_AL_add1_1 rfl rfl) ?_
  refine cr_cons (cr_aleE_ok (t0 := 3) hx hb hK rfl Z hU d_AL_add1_2 rfl) ?_
  refine cr_cons (cr_icne_ok hx hb d_AL_add1_3 (by decide) rfl) ?_
  refine cr_cons (cr_aload_n_ok hx hb d_AL_add1_6 rfl rfl) ?_
  refine cr_cons (cr_calV_ok (C := R_AL) (Tf := T_AL) (N := 3) hx hb hml hown hlk hU hlo hR (cr_W0_st s0) (by rw [hem]; exact fun _ h => absurd h List.not_mem_nil) hK rfl (u_AL_grow0 Z) (Or.inl (cr_w Z w_374 rfl hU args)) (cr_w Z w_376 rfl hU args) (cr_w Z ws_10 rfl hU args) (by decide) (by decide +kernel) (by decide) d_AL_add1_7 rfl) ?_
  refine cr_cons (cr_astore_n_ok hx hb d_AL_add1_10 rfl rfl) ?_
  refine cr_cons (cr_aload_n_ok hx hb d_AL_add1_11 rfl rfl) ?_
  refine cr_cons (cr_iload_n_ok hx hb d_AL_add1_12 rfl rfl) ?_
  refine cr_cons (cr_aload_n_ok hx hb d_AL_add1_13 rfl rfl) ?_
  refine cr_cons (cr_aast_ok (t0 := 3) hx hb hK rfl (cs_obj_ok Z hU args) d_AL_add1_14 rfl) ?_
  refine cr_cons (cr_aload_n_ok hx hb d_AL_add1_15 rfl rfl) ?_
  refine cr_cons (cr_iload_n_ok hx hb d_AL_add1_16 rfl rfl) ?_
  refine cr_cons (cr_iconst_ok hx hb d_AL_add1_17 (by decide) rfl) ?_
  refine cr_cons (cr_iadd_ok hx hb d_AL_add1_18 rfl) ?_
  refine cr_cons (cr_putf_ok (C := R_AL) (T := T_AL) (N := 3) tt_AL hx hb (k_AL Z hU args) (fun _ h => h) ty_AL nm_AL hown hK rfl (by decide) (Or.inl (cr_w Z w_50 rfl hU args)) (fun _ h => h) rfl (by decide +kernel) d_AL_add1_19 rfl) ?_
  refine cr_cons (cr_vret_ok hx hb hr hlk d_AL_add1_22) ?_
  exact cr_nil
theorem s_AL_add1 {p : Program} {l : Launch} {e : Env} {R : Room} {s : State} {m : MethodId} {args : Array Value} {below : List Frame} {meth : Method} {c : Code} {s0 : State} {D : va_G} {ca : Nat → ClassId} {e0 d mc ms : Nat} {Q : cr_Q} (hl : l.flags = flags0) (Z : cr_Z0 s0 D ca e0) (C : cr_C p R s m meth c (cr_W0 s0) s0.heap.size y_AL_add1 c_AL_add1 4 (Option.none : Option FieldType) d mc ms) (hem : c.exceptionTable.toList = []) : ∀ x ∈ t_AL_add1 l s0 D ca e0 d mc ms, cr_Snd p l e R s m args below meth c s0.heap.size mc ms Q x.1 x.2 := s_AL_add1_0 hl Z C hem
theorem d_AL_grow0_0 : decode c_AL_grow0 0 = .ok (.aload_n 0, 1) := by decide +kernel
theorem d_AL_grow0_1 : decode c_AL_grow0 1 = .ok (.aload_n 0, 1) := by decide +kernel
theorem d_AL_grow0_2 : decode c_AL_grow0 2 = .ok (.getfield 48, 3) := by decide +kernel
theorem d_AL_grow0_5 : decode c_AL_grow0 5 = .ok (.iconst 1, 1) := by decide +kernel
theorem d_AL_grow0_6 : decode c_AL_grow0 6 = .ok (.iadd, 1) := by decide +kernel
theorem d_AL_grow0_7 : decode c_AL_grow0 7 = .ok (.invokevirtual 69, 3) := by decide +kernel
theorem d_AL_grow0_10 : decode c_AL_grow0 10 = .ok (.areturn, 1) := by decide +kernel
def t_AL_grow0_0 (l : Launch) (s0 : State) (D : va_G) (ca : Nat → ClassId) (e0 d mc ms : Nat) : List (Nat × cr_T) := [(0, cr_aload 0 1),
  (1, cr_aload 0 2),
  (2, cr_getf D kc 12 1 5),
  (5, cr_push (.int 1) 6),
  (6, cr_iadd 7),
  (7, cr_calV D kc l (cr_W0 s0) s0.heap.size 12 y_AL_grow1 cw_AL_grow1 d mc ms 1 1 10),
  (10, cr_aret mc ms)]
def t_AL_grow0 (l : Launch) (s0 : State) (D : va_G) (ca : Nat → ClassId) (e0 d mc ms : Nat) : List (Nat × cr_T) := t_AL_grow0_0 l s0 D ca e0 d mc ms
set_option maxHeartbeats 4000000 in
set_option maxRecDepth 20000 in
theorem s_AL_grow0_0 {p : Program} {l : Launch} {e : Env} {R : Room} {s : State} {m : MethodId} {args : Array Value} {below : List Frame} {meth : Method} {c : Code} {s0 : State} {D : va_G} {ca : Nat → ClassId} {e0 d mc ms : Nat} {Q : cr_Q} (hl : l.flags = flags0) (Z : cr_Z0 s0 D ca e0) (C : cr_C p R s m meth c (cr_W0 s0) s0.heap.size y_AL_grow0 c_AL_grow0 1 (Option.some (FieldType.array (FieldType.object "java/lang/Object"))) d mc ms) (hem : c.exceptionTable.toList = []) : ∀ x ∈ t_AL_grow0_0 l s0 D ca e0 d mc ms, cr_Snd p l e R s m args below meth c s0.heap.size mc ms Q x.1 x.2 := by
  obtain ⟨hx, hb, hml, hown, hr, hlk, hnm, hU, hlo, hR⟩ := C
  have hK := cr_Z0K Z hU
  have hRc : R.cells = mc := by rw [hR]; rfl
  have hRs : R.slots = ms := by rw [hR]; rfl
  unfold t_AL_grow0_0
  refine cr_cons (cr_aload_n_ok hx hb d_AL_grow0_0 rfl rfl) ?_
  refine cr_cons (cr_aload_n_ok hx hb d_AL_grow0_1 rfl rfl) ?_
  refine cr_cons (cr_getf_ok (C := R_AL) (T := T_AL) (N := 3) hx hb (k_AL Z hU args) (fun _ h => h) hown hK rfl (by decide) (cr_w Z w_50 rfl hU args) (fun _ h => h) d_AL_grow0_2 rfl) ?_
  refine cr_cons (cr_iconst_ok hx hb d_AL_grow0_5 (by decide) rfl) ?_
  refine cr_cons (cr_iadd_ok hx hb d_AL_grow0_6 rfl) ?_
  refine cr_cons (cr_calV_ok (C := R_AL) (Tf := T_AL) (N := 3) hx hb hml hown hlk hU hlo hR (cr_W0_st s0) (by rw [hem]; exact fun _ h => absurd h List.not_mem_nil) hK rfl (u_AL_grow1 Z) (Or.inl (cr_w Z w_378 rfl hU args)) (cr_w Z w_380 rfl hU args) (cr_w Z ws_11 rfl hU args) (by decide) (by decide +kernel) (by decide) d_AL_grow0_7 rfl) ?_
  refine cr_cons (cr_aret_ok hx hb hr (Or.inr ⟨_, rfl⟩) hlk d_AL_grow0_10) ?_
  exact cr_nil
theorem s_AL_grow0 {p : Program} {l : Launch} {e : Env} {R : Room} {s : State} {m : MethodId} {args : Array Value} {below : List Frame} {meth : Method} {c : Code} {s0 : State} {D : va_G} {ca : Nat → ClassId} {e0 d mc ms : Nat} {Q : cr_Q} (hl : l.flags = flags0) (Z : cr_Z0 s0 D ca e0) (C : cr_C p R s m meth c (cr_W0 s0) s0.heap.size y_AL_grow0 c_AL_grow0 1 (Option.some (FieldType.array (FieldType.object "java/lang/Object"))) d mc ms) (hem : c.exceptionTable.toList = []) : ∀ x ∈ t_AL_grow0 l s0 D ca e0 d mc ms, cr_Snd p l e R s m args below meth c s0.heap.size mc ms Q x.1 x.2 := s_AL_grow0_0 hl Z C hem
theorem d_AL_grow1_0 : decode c_AL_grow1 0 = .ok (.aload_n 0, 1) := by decide +kernel
theorem d_AL_grow1_1 : decode c_AL_grow1 1 = .ok (.getfield 9, 3) := by decide +kernel
theorem d_AL_grow1_4 : decode c_AL_grow1 4 = .ok (.arraylength, 1) := by decide +kernel
theorem d_AL_grow1_5 : decode c_AL_grow1 5 = .ok (.istore_n 2, 1) := by decide +kernel
theorem d_AL_grow1_6 : decode c_AL_grow1 6 = .ok (.iload_n 2, 1) := by decide +kernel
theorem d_AL_grow1_7 : decode c_AL_grow1 7 = .ok (.ifCond .gt 13, 3) := by decide +kernel
theorem d_AL_grow1_10 : decode c_AL_grow1 10 = .ok (.aload_n 0, 1) := by decide +kernel
theorem d_AL_grow1_11 : decode c_AL_grow1 11 = .ok (.getfield 9, 3) := by decide +kernel
theorem d_AL_grow1_14 : decode c_AL_grow1 14 = .ok (.getstatic 39, 3) := by decide +kernel
theorem d_AL_grow1_17 : decode c_AL_grow1 17 = .ok (.if_acmp .eq 28, 3) := by decide +kernel
theorem d_AL_grow1_20 : decode c_AL_grow1 20 = .ok (.iload_n 2, 1) := by decide +kernel
theorem d_AL_grow1_21 : decode c_AL_grow1 21 = .ok (.iload_n 1, 1) := by decide +kernel
theorem d_AL_grow1_22 : decode c_AL_grow1 22 = .ok (.iload_n 2, 1) := by decide +kernel
theorem d_AL_grow1_23 : decode c_AL_grow1 23 = .ok (.isub, 1) := by decide +kernel
theorem d_AL_grow1_24 : decode c_AL_grow1 24 = .ok (.iload_n 2, 1) := by decide +kernel
theorem d_AL_grow1_25 : decode c_AL_grow1 25 = .ok (.iconst 1, 1) := by decide +kernel
theorem d_AL_grow1_26 : decode c_AL_grow1 26 = .ok (.ishr, 1) := by decide +kernel
theorem d_AL_grow1_27 : decode c_AL_grow1 27 = .ok (.invokestatic 73, 3) := by decide +kernel
theorem d_AL_grow1_30 : decode c_AL_grow1 30 = .ok (.istore_n 3, 1) := by decide +kernel
theorem d_AL_grow1_31 : decode c_AL_grow1 31 = .ok (.aload_n 0, 1) := by decide +kernel
theorem d_AL_grow1_32 : decode c_AL_grow1 32 = .ok (.aload_n 0, 1) := by decide +kernel
theorem d_AL_grow1_33 : decode c_AL_grow1 33 = .ok (.getfield 9, 3) := by decide +kernel
theorem d_AL_grow1_36 : decode c_AL_grow1 36 = .ok (.iload_n 3, 1) := by decide +kernel
theorem d_AL_grow1_37 : decode c_AL_grow1 37 = .ok (.invokestatic 66, 3) := by decide +kernel
theorem d_AL_grow1_40 : decode c_AL_grow1 40 = .ok (.dup_x1, 1) := by decide +kernel
theorem d_AL_grow1_41 : decode c_AL_grow1 41 = .ok (.putfield 9, 3) := by decide +kernel
theorem d_AL_grow1_44 : decode c_AL_grow1 44 = .ok (.areturn, 1) := by decide +kernel
theorem d_AL_grow1_45 : decode c_AL_grow1 45 = .ok (.aload_n 0, 1) := by decide +kernel
theorem d_AL_grow1_46 : decode c_AL_grow1 46 = .ok (.bipush 10, 2) := by decide +kernel
theorem d_AL_grow1_48 : decode c_AL_grow1 48 = .ok (.iload_n 1, 1) := by decide +kernel
theorem d_AL_grow1_49 : decode c_AL_grow1 49 = .ok (.invokestatic 79, 3) := by decide +kernel
theorem d_AL_grow1_52 : decode c_AL_grow1 52 = .ok (.anewarray 7, 3) := by decide +kernel
theorem d_AL_grow1_55 : decode c_AL_grow1 55 = .ok (.dup_x1, 1) := by decide +kernel
theorem d_AL_grow1_56 : decode c_AL_grow1 56 = .ok (.putfield 9, 3) := by decide +kernel
theorem d_AL_grow1_59 : decode c_AL_grow1 59 = .ok (.areturn, 1) := by decide +kernel
def t_AL_grow1_0 (l : Launch) (s0 : State) (D : va_G) (ca : Nat → ClassId) (e0 d mc ms : Nat) : List (Nat × cr_T) := [(0, cr_aload 0 1),
  (1, cr_getf D kc 12 0 4),
  (4, cr_aleE s0 D kc (ca 3) e0 5),
  (5, cr_istore 2 6),
  (6, cr_iload 2 7),
  (7, cr_ifgt 20 10),
  (10, cr_aload 0 11),
  (11, cr_getf D kc 12 0 14),
  (14, cr_gets s0 e0 17),
  (17, cr_aceq 45 20),
  (20, cr_iload 2 21),
  (21, cr_iload 1 22),
  (22, cr_iload 2 23),
  (23, cr_isub 24),
  (24, cr_iload 2 25),
  (25, cr_push (.int 1) 26),
  (26, cr_ishr 27),
  (27, cr_calS l (cr_W0 s0) s0.heap.size y_As_newLength cw_As_newLength d mc ms 3 4 30),
  (30, cr_istore 3 31),
  (31, cr_aload 0 32),
  (32, cr_aload 0 33),
  (33, cr_getf D kc 12 0 36),
  (36, cr_iload 3 37),
  (37, cr_calS l (cr_W0 s0) s0.heap.size y_Ar_copyOf0 cw_Ar_copyOf0 d mc ms 2 4 40),
  (40, cr_dup_x1 41),
  (41, cr_putf D kc s0.heap.size 12 0 (.array (.object "java/lang/Object")) 44),
  (44, cr_aret mc ms),
  (45, cr_aload 0 46),
  (46, cr_push (.int 10) 48),
  (48, cr_iload 1 49)]
def t_AL_grow1_1 (l : Launch) (s0 : State) (D : va_G) (ca : Nat → ClassId) (e0 d mc ms : Nat) : List (Nat × cr_T) := [(49, cr_mmax mc ms d 4 52),
  (52, cr_newq D kc s0.heap.size mc ms (ca 3) 55),
  (55, cr_dup_x1 56),
  (56, cr_putf D kc s0.heap.size 12 0 (.array (.object "java/lang/Object")) 59),
  (59, cr_aret mc ms)]
def t_AL_grow1 (l : Launch) (s0 : State) (D : va_G) (ca : Nat → ClassId) (e0 d mc ms : Nat) : List (Nat × cr_T) := t_AL_grow1_0 l s0 D ca e0 d mc ms ++ (t_AL_grow1_1 l s0 D ca e0 d mc ms)
set_option maxHeartbeats 4000000 in
set_option maxRecDepth 20000 in
theorem s_AL_grow1_0 {p : Program} {l : Launch} {e : Env} {R : Room} {s : State} {m : MethodId} {args : Array Value} {below : List Frame} {meth : Method} {c : Code} {s0 : State} {D : va_G} {ca : Nat → ClassId} {e0 d mc ms : Nat} {Q : cr_Q} (hl : l.flags = flags0) (Z : cr_Z0 s0 D ca e0) (C : cr_C p R s m meth c (cr_W0 s0) s0.heap.size y_AL_grow1 c_AL_grow1 4 (Option.some (FieldType.array (FieldType.object "java/lang/Object"))) d mc ms) (hem : c.exceptionTable.toList = []) : ∀ x ∈ t_AL_grow1_0 l s0 D ca e0 d mc ms, cr_Snd p l e R s m args below meth c s0.heap.size mc ms Q x.1 x.2 := by
  obtain ⟨hx, hb, hml, hown, hr, hlk, hnm, hU, hlo, hR⟩ := C
  have hK := cr_Z0K Z hU
  have hRc : R.cells = mc := by rw [hR]; rfl
  have hRs : R.slots = ms := by rw [hR]; rfl
  unfold t_AL_grow1_0
  refine cr_cons (cr_aload_n_ok hx hb d_AL_grow1_0 rfl rfl) ?_
  refine cr_cons (cr_getf_ok (C := R_AL) (T := T_AL) (N := 3) hx hb (k_AL Z hU args) (fun _ h => h) hown hK rfl (by decide) (cr_w Z w_49 rfl hU args) (fun _ h => h) d_AL_grow1_1 rfl) ?_
  refine cr_cons (cr_aleE_ok (t0 := 3) hx hb hK rfl Z hU d_AL_grow1_4 rfl) ?_
  refine cr_cons (cr_istore_n_ok hx hb d_AL_grow1_5 rfl rfl) ?_
  refine cr_cons (cr_iload_n_ok hx hb d_AL_grow1_6 rfl rfl) ?_
  refine cr_cons (cr_ifgt_ok hx hb d_AL_grow1_7 (by decide) rfl) ?_
  refine cr_cons (cr_aload_n_ok hx hb d_AL_grow1_10 rfl rfl) ?_
  refine cr_cons (cr_getf_ok (C := R_AL) (T := T_AL) (N := 3) hx hb (k_AL Z hU args) (fun _ h => h) hown hK rfl (by decide) (cr_w Z w_49 rfl hU args) (fun _ h => h) d_AL_grow1_11 rfl) ?_
  refine cr_cons (cr_gets_ok hx hb hown Z hU (cr_w Z w_47 rfl hU args) d_AL_grow1_14 rfl) ?_
  refine cr_cons (cr_aceq_ok hx hb d_AL_grow1_17 (by decide) rfl) ?_
  refine cr_cons (cr_iload_n_ok hx hb d_AL_grow1_20 rfl rfl) ?_
  refine cr_cons (cr_iload_n_ok hx hb d_AL_grow1_21 rfl rfl) ?_
  refine cr_cons (cr_iload_n_ok hx hb d_AL_grow1_22 rfl rfl) ?_
  refine cr_cons (cr_isub_ok hx hb d_AL_grow1_23 rfl) ?_
  refine cr_cons (cr_iload_n_ok hx hb d_AL_grow1_24 rfl rfl) ?_
  refine cr_cons (cr_iconst_ok hx hb d_AL_grow1_25 (by decide) rfl) ?_
  refine cr_cons (cr_ishr_ok hx hb d_AL_grow1_26 rfl) ?_
  refine cr_cons (cr_calS_ok hx hb hml hown hlk hU hlo hR (cr_W0_st s0) (by rw [hem]; exact fun _ h => absurd h List.not_mem_nil) (u_As_newLength Z) (Or.inl (cr_w Z w_382 rfl hU args)) (cr_w Z w_383 rfl hU args) (by decide) (by decide +kernel) (by decide) d_AL_grow1_27 rfl) ?_
  refine cr_cons (cr_istore_n_ok hx hb d_AL_grow1_30 rfl rfl) ?_
  refine cr_cons (cr_aload_n_ok hx hb d_AL_grow1_31 rfl rfl) ?_
  refine cr_cons (cr_aload_n_ok hx hb d_AL_grow1_32 rfl rfl) ?_
  refine cr_cons (cr_getf_ok (C := R_AL) (T := T_AL) (N := 3) hx hb (k_AL Z hU args) (fun _ h => h) hown hK rfl (by decide) (cr_w Z w_49 rfl hU args) (fun _ h => h) d_AL_grow1_33 rfl) ?_
  refine cr_cons (cr_iload_n_ok hx hb d_AL_grow1_36 rfl rfl) ?_
  refine cr_cons (cr_calS_ok hx hb hml hown hlk hU hlo hR (cr_W0_st s0) (by rw [hem]; exact fun _ h => absurd h List.not_mem_nil) (u_Ar_copyOf0 Z) (Or.inl (cr_w Z w_392 rfl hU args)) (cr_w Z w_393 rfl hU args) (by decide) (by decide +kernel) (by decide) d_AL_grow1_37 rfl) ?_
  refine cr_cons (cr_dup_x1_ok hx hb d_AL_grow1_40 rfl) ?_
  refine cr_cons (cr_putf_ok (C := R_AL) (T := T_AL) (N := 3) tt_AL hx hb (k_AL Z hU args) (fun _ h => h) ty_AL nm_AL hown hK rfl (by decide) (Or.inl (cr_w Z w_49 rfl hU args)) (fun _ h => h) rfl (by decide +kernel) d_AL_grow1_41 rfl) ?_
  refine cr_cons (cr_aret_ok hx hb hr (Or.inr ⟨_, rfl⟩) hlk d_AL_grow1_44) ?_
  refine cr_cons (cr_aload_n_ok hx hb d_AL_grow1_45 rfl rfl) ?_
  refine cr_cons (cr_bipush_ok hx hb d_AL_grow1_46 (by decide) rfl) ?_
  refine cr_cons (cr_iload_n_ok hx hb d_AL_grow1_48 rfl rfl) ?_
  exact cr_nil
set_option maxHeartbeats 4000000 in
set_option maxRecDepth 20000 in
theorem s_AL_grow1_1 {p : Program} {l : Launch} {e : Env} {R : Room} {s : State} {m : MethodId} {args : Array Value} {below : List Frame} {meth : Method} {c : Code} {s0 : State} {D : va_G} {ca : Nat → ClassId} {e0 d mc ms : Nat} {Q : cr_Q} (hl : l.flags = flags0) (Z : cr_Z0 s0 D ca e0) (C : cr_C p R s m meth c (cr_W0 s0) s0.heap.size y_AL_grow1 c_AL_grow1 4 (Option.some (FieldType.array (FieldType.object "java/lang/Object"))) d mc ms) (hem : c.exceptionTable.toList = []) : ∀ x ∈ t_AL_grow1_1 l s0 D ca e0 d mc ms, cr_Snd p l e R s m args below meth c s0.heap.size mc ms Q x.1 x.2 := by
  obtain ⟨hx, hb, hml, hown, hr, hlk, hnm, hU, hlo, hR⟩ := C
  have hK := cr_Z0K Z hU
  have hRc : R.cells = mc := by rw [hR]; rfl
  have hRs : R.slots = ms := by rw [hR]; rfl
  unfold t_AL_grow1_1
  refine cr_cons (cr_mmax_ok hx hb hml hown hR (cr_w Z w_426 rfl hU args) (cr_w Z w_386 rfl hU args) (cr_w Z w_18 rfl hU args) (cr_w Z w_387 rfl hU args) d_AL_grow1_49 rfl) ?_
  refine cr_cons (cr_newq_ok (C := "java/lang/Object") hx hb hown (cr_w Z w_427 rfl hU args) (cr_wo Z hU args) (cr_fo hK) hlo hRc hRs d_AL_grow1_52 rfl) ?_
  refine cr_cons (cr_dup_x1_ok hx hb d_AL_grow1_55 rfl) ?_
  refine cr_cons (cr_putf_ok (C := R_AL) (T := T_AL) (N := 3) tt_AL hx hb (k_AL Z hU args) (fun _ h => h) ty_AL nm_AL hown hK rfl (by decide) (Or.inl (cr_w Z w_49 rfl hU args)) (fun _ h => h) rfl (by decide +kernel) d_AL_grow1_56 rfl) ?_
  refine cr_cons (cr_aret_ok hx hb hr (Or.inr ⟨_, rfl⟩) hlk d_AL_grow1_59) ?_
  exact cr_nil
theorem s_AL_grow1 {p : Program} {l : Launch} {e : Env} {R : Room} {s : State} {m : MethodId} {args : Array Value} {below : List Frame} {meth : Method} {c : Code} {s0 : State} {D : va_G} {ca : Nat → ClassId} {e0 d mc ms : Nat} {Q : cr_Q} (hl : l.flags = flags0) (Z : cr_Z0 s0 D ca e0) (C : cr_C p R s m meth c (cr_W0 s0) s0.heap.size y_AL_grow1 c_AL_grow1 4 (Option.some (FieldType.array (FieldType.object "java/lang/Object"))) d mc ms) (hem : c.exceptionTable.toList = []) : ∀ x ∈ t_AL_grow1 l s0 D ca e0 d mc ms, cr_Snd p l e R s m args below meth c s0.heap.size mc ms Q x.1 x.2 := cr_app (s_AL_grow1_0 hl Z C hem) (s_AL_grow1_1 hl Z C hem)
theorem d_As_newLength_0 : decode c_As_newLength 0 = .ok (.iload_n 0, 1) := by decide +kernel
theorem d_As_newLength_1 : decode c_As_newLength 1 = .ok (.iload_n 1, 1) := by decide +kernel
theorem d_As_newLength_2 : decode c_As_newLength 2 = .ok (.iload_n 2, 1) := by decide +kernel
theorem d_As_newLength_3 : decode c_As_newLength 3 = .ok (.invokestatic 194, 3) := by decide +kernel
theorem d_As_newLength_6 : decode c_As_newLength 6 = .ok (.iadd, 1) := by decide +kernel
theorem d_As_newLength_7 : decode c_As_newLength 7 = .ok (.istore_n 3, 1) := by decide +kernel
theorem d_As_newLength_8 : decode c_As_newLength 8 = .ok (.iconst 0, 1) := by decide +kernel
theorem d_As_newLength_9 : decode c_As_newLength 9 = .ok (.iload_n 3, 1) := by decide +kernel
theorem d_As_newLength_10 : decode c_As_newLength 10 = .ok (.if_icmp .ge 11, 3) := by decide +kernel
theorem d_As_newLength_13 : decode c_As_newLength 13 = .ok (.iload_n 3, 1) := by decide +kernel
theorem d_As_newLength_14 : decode c_As_newLength 14 = .ok (.ldc 200, 2) := by decide +kernel
theorem d_As_newLength_16 : decode c_As_newLength 16 = .ok (.if_icmp .gt 5, 3) := by decide +kernel
theorem d_As_newLength_19 : decode c_As_newLength 19 = .ok (.iload_n 3, 1) := by decide +kernel
theorem d_As_newLength_20 : decode c_As_newLength 20 = .ok (.ireturn, 1) := by decide +kernel
theorem d_As_newLength_21 : decode c_As_newLength 21 = .ok (.iload_n 0, 1) := by decide +kernel
theorem d_As_newLength_22 : decode c_As_newLength 22 = .ok (.iload_n 1, 1) := by decide +kernel
theorem d_As_newLength_23 : decode c_As_newLength 23 = .ok (.invokestatic 201, 3) := by decide +kernel
theorem d_As_newLength_26 : decode c_As_newLength 26 = .ok (.ireturn, 1) := by decide +kernel
def t_As_newLength_0 (l : Launch) (s0 : State) (D : va_G) (ca : Nat → ClassId) (e0 d mc ms : Nat) : List (Nat × cr_T) := [(0, cr_iload 0 1),
  (1, cr_iload 1 2),
  (2, cr_iload 2 3),
  (3, cr_mmax mc ms d 4 6),
  (6, cr_iadd 7),
  (7, cr_istore 3 8),
  (8, cr_push (.int 0) 9),
  (9, cr_iload 3 10),
  (10, cr_icge 21 13),
  (13, cr_iload 3 14),
  (14, cr_push (.int 2147483639) 16),
  (16, cr_icgt 21 19),
  (19, cr_iload 3 20),
  (20, cr_iret mc ms),
  (21, cr_iload 0 22),
  (22, cr_iload 1 23),
  (23, cr_calS l (cr_W0 s0) s0.heap.size y_As_hugeLength cw_As_hugeLength d mc ms 2 4 26),
  (26, cr_iret mc ms)]
def t_As_newLength (l : Launch) (s0 : State) (D : va_G) (ca : Nat → ClassId) (e0 d mc ms : Nat) : List (Nat × cr_T) := t_As_newLength_0 l s0 D ca e0 d mc ms
set_option maxHeartbeats 4000000 in
set_option maxRecDepth 20000 in
theorem s_As_newLength_0 {p : Program} {l : Launch} {e : Env} {R : Room} {s : State} {m : MethodId} {args : Array Value} {below : List Frame} {meth : Method} {c : Code} {s0 : State} {D : va_G} {ca : Nat → ClassId} {e0 d mc ms : Nat} {Q : cr_Q} (hl : l.flags = flags0) (Z : cr_Z0 s0 D ca e0) (C : cr_C p R s m meth c (cr_W0 s0) s0.heap.size y_As_newLength c_As_newLength 4 (Option.some FieldType.int) d mc ms) (hem : c.exceptionTable.toList = []) : ∀ x ∈ t_As_newLength_0 l s0 D ca e0 d mc ms, cr_Snd p l e R s m args below meth c s0.heap.size mc ms Q x.1 x.2 := by
  obtain ⟨hx, hb, hml, hown, hr, hlk, hnm, hU, hlo, hR⟩ := C
  have hK := cr_Z0K Z hU
  have hRc : R.cells = mc := by rw [hR]; rfl
  have hRs : R.slots = ms := by rw [hR]; rfl
  unfold t_As_newLength_0
  refine cr_cons (cr_iload_n_ok hx hb d_As_newLength_0 rfl rfl) ?_
  refine cr_cons (cr_iload_n_ok hx hb d_As_newLength_1 rfl rfl) ?_
  refine cr_cons (cr_iload_n_ok hx hb d_As_newLength_2 rfl rfl) ?_
  refine cr_cons (cr_mmax_ok hx hb hml hown hR (cr_w Z w_385 rfl hU args) (cr_w Z w_386 rfl hU args) (cr_w Z w_18 rfl hU args) (cr_w Z w_387 rfl hU args) d_As_newLength_3 rfl) ?_
  refine cr_cons (cr_iadd_ok hx hb d_As_newLength_6 rfl) ?_
  refine cr_cons (cr_istore_n_ok hx hb d_As_newLength_7 rfl rfl) ?_
  refine cr_cons (cr_iconst_ok hx hb d_As_newLength_8 (by decide) rfl) ?_
  refine cr_cons (cr_iload_n_ok hx hb d_As_newLength_9 rfl rfl) ?_
  refine cr_cons (cr_icge_ok hx hb d_As_newLength_10 (by decide) rfl) ?_
  refine cr_cons (cr_iload_n_ok hx hb d_As_newLength_13 rfl rfl) ?_
  refine cr_cons (cr_ldc_ok hx hb hown (cr_w Z w_388 rfl hU args) d_As_newLength_14 rfl) ?_
  refine cr_cons (cr_icgt_ok hx hb d_As_newLength_16 (by decide) rfl) ?_
  refine cr_cons (cr_iload_n_ok hx hb d_As_newLength_19 rfl rfl) ?_
  refine cr_cons (cr_iret_ok hx hb hr hlk d_As_newLength_20) ?_
  refine cr_cons (cr_iload_n_ok hx hb d_As_newLength_21 rfl rfl) ?_
  refine cr_cons (cr_iload_n_ok hx hb d_As_newLength_22 rfl rfl) ?_
  refine cr_cons (cr_calS_ok hx hb hml hown hlk hU hlo hR (cr_W0_st s0) (by rw [hem]; exact fun _ h => absurd h List.not_mem_nil) (u_As_hugeLength Z) (Or.inl (cr_w Z w_389 rfl hU args)) (cr_w Z w_390 rfl hU args) (by decide) (by decide +kernel) (by decide) d_As_newLength_23 rfl) ?_
  refine cr_cons (cr_iret_ok hx hb hr hlk d_As_newLength_26) ?_
  exact cr_nil
theorem s_As_newLength {p : Program} {l : Launch} {e : Env} {R : Room} {s : State} {m : MethodId} {args : Array Value} {below : List Frame} {meth : Method} {c : Code} {s0 : State} {D : va_G} {ca : Nat → ClassId} {e0 d mc ms : Nat} {Q : cr_Q} (hl : l.flags = flags0) (Z : cr_Z0 s0 D ca e0) (C : cr_C p R s m meth c (cr_W0 s0) s0.heap.size y_As_newLength c_As_newLength 4 (Option.some FieldType.int) d mc ms) (hem : c.exceptionTable.toList = []) : ∀ x ∈ t_As_newLength l s0 D ca e0 d mc ms, cr_Snd p l e R s m args below meth c s0.heap.size mc ms Q x.1 x.2 := s_As_newLength_0 hl Z C hem
theorem d_Ma_max_0 : decode c_Ma_max 0 = .ok (.iload_n 0, 1) := by decide +kernel
theorem d_Ma_max_1 : decode c_Ma_max 1 = .ok (.iload_n 1, 1) := by decide +kernel
theorem d_Ma_max_2 : decode c_Ma_max 2 = .ok (.if_icmp .lt 7, 3) := by decide +kernel
theorem d_Ma_max_5 : decode c_Ma_max 5 = .ok (.iload_n 0, 1) := by decide +kernel
theorem d_Ma_max_6 : decode c_Ma_max 6 = .ok (.goto 4, 3) := by decide +kernel
theorem d_Ma_max_9 : decode c_Ma_max 9 = .ok (.iload_n 1, 1) := by decide +kernel
theorem d_Ma_max_10 : decode c_Ma_max 10 = .ok (.ireturn, 1) := by decide +kernel
def t_Ma_max_0 (l : Launch) (s0 : State) (D : va_G) (ca : Nat → ClassId) (e0 d mc ms : Nat) : List (Nat × cr_T) := [(0, cr_iload 0 1),
  (1, cr_iload 1 2),
  (2, cr_iclt 9 5),
  (5, cr_iload 0 6),
  (6, cr_goto 10),
  (9, cr_iload 1 10),
  (10, cr_iret mc ms)]
def t_Ma_max (l : Launch) (s0 : State) (D : va_G) (ca : Nat → ClassId) (e0 d mc ms : Nat) : List (Nat × cr_T) := t_Ma_max_0 l s0 D ca e0 d mc ms
set_option maxHeartbeats 4000000 in
set_option maxRecDepth 20000 in
theorem s_Ma_max_0 {p : Program} {l : Launch} {e : Env} {R : Room} {s : State} {m : MethodId} {args : Array Value} {below : List Frame} {meth : Method} {c : Code} {s0 : State} {D : va_G} {ca : Nat → ClassId} {e0 d mc ms : Nat} {Q : cr_Q} (hl : l.flags = flags0) (Z : cr_Z0 s0 D ca e0) (C : cr_C p R s m meth c (cr_W0 s0) s0.heap.size y_Ma_max c_Ma_max 2 (Option.some FieldType.int) d mc ms) (hem : c.exceptionTable.toList = []) : ∀ x ∈ t_Ma_max_0 l s0 D ca e0 d mc ms, cr_Snd p l e R s m args below meth c s0.heap.size mc ms Q x.1 x.2 := by
  obtain ⟨hx, hb, hml, hown, hr, hlk, hnm, hU, hlo, hR⟩ := C
  have hK := cr_Z0K Z hU
  have hRc : R.cells = mc := by rw [hR]; rfl
  have hRs : R.slots = ms := by rw [hR]; rfl
  unfold t_Ma_max_0
  refine cr_cons (cr_iload_n_ok hx hb d_Ma_max_0 rfl rfl) ?_
  refine cr_cons (cr_iload_n_ok hx hb d_Ma_max_1 rfl rfl) ?_
  refine cr_cons (cr_iclt_ok hx hb d_Ma_max_2 (by decide) rfl) ?_
  refine cr_cons (cr_iload_n_ok hx hb d_Ma_max_5 rfl rfl) ?_
  refine cr_cons (cr_goto_ok hx hb d_Ma_max_6 (by decide)) ?_
  refine cr_cons (cr_iload_n_ok hx hb d_Ma_max_9 rfl rfl) ?_
  refine cr_cons (cr_iret_ok hx hb hr hlk d_Ma_max_10) ?_
  exact cr_nil
theorem s_Ma_max {p : Program} {l : Launch} {e : Env} {R : Room} {s : State} {m : MethodId} {args : Array Value} {below : List Frame} {meth : Method} {c : Code} {s0 : State} {D : va_G} {ca : Nat → ClassId} {e0 d mc ms : Nat} {Q : cr_Q} (hl : l.flags = flags0) (Z : cr_Z0 s0 D ca e0) (C : cr_C p R s m meth c (cr_W0 s0) s0.heap.size y_Ma_max c_Ma_max 2 (Option.some FieldType.int) d mc ms) (hem : c.exceptionTable.toList = []) : ∀ x ∈ t_Ma_max l s0 D ca e0 d mc ms, cr_Snd p l e R s m args below meth c s0.heap.size mc ms Q x.1 x.2 := s_Ma_max_0 hl Z C hem
theorem d_Ar_copyOf0_0 : decode c_Ar_copyOf0 0 = .ok (.aload_n 0, 1) := by decide +kernel
theorem d_Ar_copyOf0_1 : decode c_Ar_copyOf0 1 = .ok (.iload_n 1, 1) := by decide +kernel
theorem d_Ar_copyOf0_2 : decode c_Ar_copyOf0 2 = .ok (.aload_n 0, 1) := by decide +kernel
theorem d_Ar_copyOf0_3 : decode c_Ar_copyOf0 3 = .ok (.invokevirtual 86, 3) := by decide +kernel
theorem d_Ar_copyOf0_6 : decode c_Ar_copyOf0 6 = .ok (.invokestatic 300, 3) := by decide +kernel
theorem d_Ar_copyOf0_9 : decode c_Ar_copyOf0 9 = .ok (.areturn, 1) := by decide +kernel
def t_Ar_copyOf0_0 (l : Launch) (s0 : State) (D : va_G) (ca : Nat → ClassId) (e0 d mc ms : Nat) : List (Nat × cr_T) := [(0, cr_aload 0 1),
  (1, cr_iload 1 2),
  (2, cr_aload 0 3),
  (3, cr_getC s0 D kc (ca 3) d 2 6),
  (6, cr_calS l (cr_W0 s0) s0.heap.size y_Ar_copyOf1 cw_Ar_copyOf1 d mc ms 3 2 9),
  (9, cr_aret mc ms)]
def t_Ar_copyOf0 (l : Launch) (s0 : State) (D : va_G) (ca : Nat → ClassId) (e0 d mc ms : Nat) : List (Nat × cr_T) := t_Ar_copyOf0_0 l s0 D ca e0 d mc ms
set_option maxHeartbeats 4000000 in
set_option maxRecDepth 20000 in
theorem s_Ar_copyOf0_0 {p : Program} {l : Launch} {e : Env} {R : Room} {s : State} {m : MethodId} {args : Array Value} {below : List Frame} {meth : Method} {c : Code} {s0 : State} {D : va_G} {ca : Nat → ClassId} {e0 d mc ms : Nat} {Q : cr_Q} (hl : l.flags = flags0) (Z : cr_Z0 s0 D ca e0) (C : cr_C p R s m meth c (cr_W0 s0) s0.heap.size y_Ar_copyOf0 c_Ar_copyOf0 2 (Option.some (FieldType.array (FieldType.object "java/lang/Object"))) d mc ms) (hem : c.exceptionTable.toList = []) : ∀ x ∈ t_Ar_copyOf0_0 l s0 D ca e0 d mc ms, cr_Snd p l e R s m args below meth c s0.heap.size mc ms Q x.1 x.2 := by
  obtain ⟨hx, hb, hml, hown, hr, hlk, hnm, hU, hlo, hR⟩ := C
  have hK := cr_Z0K Z hU
  have hRc : R.cells = mc := by rw [hR]; rfl
  have hRs : R.slots = ms := by rw [hR]; rfl
  unfold t_Ar_copyOf0_0
  refine cr_cons (cr_aload_n_ok hx hb d_Ar_copyOf0_0 rfl rfl) ?_
  refine cr_cons (cr_iload_n_ok hx hb d_Ar_copyOf0_1 rfl rfl) ?_
  refine cr_cons (cr_aload_n_ok hx hb d_Ar_copyOf0_2 rfl rfl) ?_
  refine cr_cons (cr_getC_ok hx hb hml hown hK Z hU hR (cr_w Z w_395 rfl hU args) (cr_w Z w_1091 rfl hU args) (cr_w Z w_1090 rfl hU args) (cr_w Z w_396 rfl hU args) (cr_w Z w_413 rfl hU args) d_Ar_copyOf0_3 rfl) ?_
  refine cr_cons (cr_calS_ok hx hb hml hown hlk hU hlo hR (cr_W0_st s0) (by rw [hem]; exact fun _ h => absurd h List.not_mem_nil) (u_Ar_copyOf1 Z) (Or.inl (cr_w Z w_414 rfl hU args)) (cr_w Z w_415 rfl hU args) (by decide) (by decide +kernel) (by decide) d_Ar_copyOf0_6 rfl) ?_
  refine cr_cons (cr_aret_ok hx hb hr (Or.inr ⟨_, rfl⟩) hlk d_Ar_copyOf0_9) ?_
  exact cr_nil
theorem s_Ar_copyOf0 {p : Program} {l : Launch} {e : Env} {R : Room} {s : State} {m : MethodId} {args : Array Value} {below : List Frame} {meth : Method} {c : Code} {s0 : State} {D : va_G} {ca : Nat → ClassId} {e0 d mc ms : Nat} {Q : cr_Q} (hl : l.flags = flags0) (Z : cr_Z0 s0 D ca e0) (C : cr_C p R s m meth c (cr_W0 s0) s0.heap.size y_Ar_copyOf0 c_Ar_copyOf0 2 (Option.some (FieldType.array (FieldType.object "java/lang/Object"))) d mc ms) (hem : c.exceptionTable.toList = []) : ∀ x ∈ t_Ar_copyOf0 l s0 D ca e0 d mc ms, cr_Snd p l e R s m args below meth c s0.heap.size mc ms Q x.1 x.2 := s_Ar_copyOf0_0 hl Z C hem
theorem d_Ar_copyOf1_0 : decode c_Ar_copyOf1 0 = .ok (.aload_n 2, 1) := by decide +kernel
theorem d_Ar_copyOf1_1 : decode c_Ar_copyOf1 1 = .ok (.ldc 110, 2) := by decide +kernel
theorem d_Ar_copyOf1_3 : decode c_Ar_copyOf1 3 = .ok (.if_acmp .ne 10, 3) := by decide +kernel
theorem d_Ar_copyOf1_6 : decode c_Ar_copyOf1 6 = .ok (.iload_n 1, 1) := by decide +kernel
theorem d_Ar_copyOf1_7 : decode c_Ar_copyOf1 7 = .ok (.anewarray 2, 3) := by decide +kernel
theorem d_Ar_copyOf1_10 : decode c_Ar_copyOf1 10 = .ok (.goto 14, 3) := by decide +kernel
theorem d_Ar_copyOf1_24 : decode c_Ar_copyOf1 24 = .ok (.astore_n 3, 1) := by decide +kernel
theorem d_Ar_copyOf1_25 : decode c_Ar_copyOf1 25 = .ok (.aload_n 0, 1) := by decide +kernel
theorem d_Ar_copyOf1_26 : decode c_Ar_copyOf1 26 = .ok (.iconst 0, 1) := by decide +kernel
theorem d_Ar_copyOf1_27 : decode c_Ar_copyOf1 27 = .ok (.aload_n 3, 1) := by decide +kernel
theorem d_Ar_copyOf1_28 : decode c_Ar_copyOf1 28 = .ok (.iconst 0, 1) := by decide +kernel
theorem d_Ar_copyOf1_29 : decode c_Ar_copyOf1 29 = .ok (.aload_n 0, 1) := by decide +kernel
theorem d_Ar_copyOf1_30 : decode c_Ar_copyOf1 30 = .ok (.arraylength, 1) := by decide +kernel
theorem d_Ar_copyOf1_31 : decode c_Ar_copyOf1 31 = .ok (.iload_n 1, 1) := by decide +kernel
theorem d_Ar_copyOf1_32 : decode c_Ar_copyOf1 32 = .ok (.invokestatic 304, 3) := by decide +kernel
theorem d_Ar_copyOf1_35 : decode c_Ar_copyOf1 35 = .ok (.invokestatic 150, 3) := by decide +kernel
theorem d_Ar_copyOf1_38 : decode c_Ar_copyOf1 38 = .ok (.aload_n 3, 1) := by decide +kernel
theorem d_Ar_copyOf1_39 : decode c_Ar_copyOf1 39 = .ok (.areturn, 1) := by decide +kernel
def t_Ar_copyOf1_0 (l : Launch) (s0 : State) (D : va_G) (ca : Nat → ClassId) (e0 d mc ms : Nat) : List (Nat × cr_T) := [(0, cr_aload 2 1),
  (1, cr_ldcM s0 3),
  (3, cr_acne 13 6),
  (6, cr_iload 1 7),
  (7, cr_newq D kc s0.heap.size mc ms (ca 3) 10),
  (10, cr_goto 24),
  (24, cr_astore 3 25),
  (25, cr_aload 0 26),
  (26, cr_push (.int 0) 27),
  (27, cr_aload 3 28),
  (28, cr_push (.int 0) 29),
  (29, cr_aload 0 30),
  (30, cr_aleE s0 D kc (ca 3) e0 31),
  (31, cr_iload 1 32),
  (32, cr_mmin mc ms d 4 35),
  (35, cr_copyq s0 D kc d (ca 3) cs_obj 4 38),
  (38, cr_aload 3 39),
  (39, cr_aret mc ms)]
def t_Ar_copyOf1 (l : Launch) (s0 : State) (D : va_G) (ca : Nat → ClassId) (e0 d mc ms : Nat) : List (Nat × cr_T) := t_Ar_copyOf1_0 l s0 D ca e0 d mc ms
set_option maxHeartbeats 4000000 in
set_option maxRecDepth 20000 in
theorem s_Ar_copyOf1_0 {p : Program} {l : Launch} {e : Env} {R : Room} {s : State} {m : MethodId} {args : Array Value} {below : List Frame} {meth : Method} {c : Code} {s0 : State} {D : va_G} {ca : Nat → ClassId} {e0 d mc ms : Nat} {Q : cr_Q} (hl : l.flags = flags0) (Z : cr_Z0 s0 D ca e0) (C : cr_C p R s m meth c (cr_W0 s0) s0.heap.size y_Ar_copyOf1 c_Ar_copyOf1 4 (Option.some (FieldType.array (FieldType.object "java/lang/Object"))) d mc ms) (hem : c.exceptionTable.toList = []) : ∀ x ∈ t_Ar_copyOf1_0 l s0 D ca e0 d mc ms, cr_Snd p l e R s m args below meth c s0.heap.size mc ms Q x.1 x.2 := by
  obtain ⟨hx, hb, hml, hown, hr, hlk, hnm, hU, hlo, hR⟩ := C
  have hK := cr_Z0K Z hU
  have hRc : R.cells = mc := by rw [hR]; rfl
  have hRs : R.slots = ms := by rw [hR]; rfl
  unfold t_Ar_copyOf1_0
  refine cr_cons (cr_aload_n_ok hx hb d_Ar_copyOf1_0 rfl rfl) ?_
  refine cr_cons (cr_ldcM_ok hx hb hown Z hU (cr_w Z w_417 rfl hU args) d_Ar_copyOf1_1 rfl) ?_
  refine cr_cons (cr_acne_ok hx hb d_Ar_copyOf1_3 (by decide) rfl) ?_
  refine cr_cons (cr_iload_n_ok hx hb d_Ar_copyOf1_6 rfl rfl) ?_
  refine cr_cons (cr_newq_ok (C := "java/lang/Object") hx hb hown (cr_w Z w_419 rfl hU args) (cr_wo Z hU args) (cr_fo hK) hlo hRc hRs d_Ar_copyOf1_7 rfl) ?_
  refine cr_cons (cr_goto_ok hx hb d_Ar_copyOf1_10 (by decide)) ?_
  refine cr_cons (cr_astore_n_ok hx hb d_Ar_copyOf1_24 rfl rfl) ?_
  refine cr_cons (cr_aload_n_ok hx hb d_Ar_copyOf1_25 rfl rfl) ?_
  refine cr_cons (cr_iconst_ok hx hb d_Ar_copyOf1_26 (by decide) rfl) ?_
  refine cr_cons (cr_aload_n_ok hx hb d_Ar_copyOf1_27 rfl rfl) ?_
  refine cr_cons (cr_iconst_ok hx hb d_Ar_copyOf1_28 (by decide) rfl) ?_
  refine cr_cons (cr_aload_n_ok hx hb d_Ar_copyOf1_29 rfl rfl) ?_
  refine cr_cons (cr_aleE_ok (t0 := 3) hx hb hK rfl Z hU d_Ar_copyOf1_30 rfl) ?_
  refine cr_cons (cr_iload_n_ok hx hb d_Ar_copyOf1_31 rfl rfl) ?_
  refine cr_cons (cr_mmin_ok hx hb hml hown hR (cr_w Z w_420 rfl hU args) (cr_w Z w_421 rfl hU args) (cr_w Z w_18 rfl hU args) (cr_w Z w_422 rfl hU args) d_Ar_copyOf1_32 rfl) ?_
  refine cr_cons (cr_copyq_ok (t0 := 3) hx hb hml hown hK Z hU hR rfl (cs_obj_ok Z hU args) (cr_w Z w_423 rfl hU args) d_Ar_copyOf1_35 rfl) ?_
  refine cr_cons (cr_aload_n_ok hx hb d_Ar_copyOf1_38 rfl rfl) ?_
  refine cr_cons (cr_aret_ok hx hb hr (Or.inr ⟨_, rfl⟩) hlk d_Ar_copyOf1_39) ?_
  exact cr_nil
theorem s_Ar_copyOf1 {p : Program} {l : Launch} {e : Env} {R : Room} {s : State} {m : MethodId} {args : Array Value} {below : List Frame} {meth : Method} {c : Code} {s0 : State} {D : va_G} {ca : Nat → ClassId} {e0 d mc ms : Nat} {Q : cr_Q} (hl : l.flags = flags0) (Z : cr_Z0 s0 D ca e0) (C : cr_C p R s m meth c (cr_W0 s0) s0.heap.size y_Ar_copyOf1 c_Ar_copyOf1 4 (Option.some (FieldType.array (FieldType.object "java/lang/Object"))) d mc ms) (hem : c.exceptionTable.toList = []) : ∀ x ∈ t_Ar_copyOf1 l s0 D ca e0 d mc ms, cr_Snd p l e R s m args below meth c s0.heap.size mc ms Q x.1 x.2 := s_Ar_copyOf1_0 hl Z C hem
theorem d_Ma_min_0 : decode c_Ma_min 0 = .ok (.iload_n 0, 1) := by decide +kernel
theorem d_Ma_min_1 : decode c_Ma_min 1 = .ok (.iload_n 1, 1) := by decide +kernel
theorem d_Ma_min_2 : decode c_Ma_min 2 = .ok (.if_icmp .gt 7, 3) := by decide +kernel
theorem d_Ma_min_5 : decode c_Ma_min 5 = .ok (.iload_n 0, 1) := by decide +kernel
theorem d_Ma_min_6 : decode c_Ma_min 6 = .ok (.goto 4, 3) := by decide +kernel
theorem d_Ma_min_9 : decode c_Ma_min 9 = .ok (.iload_n 1, 1) := by decide +kernel
theorem d_Ma_min_10 : decode c_Ma_min 10 = .ok (.ireturn, 1) := by decide +kernel
def t_Ma_min_0 (l : Launch) (s0 : State) (D : va_G) (ca : Nat → ClassId) (e0 d mc ms : Nat) : List (Nat × cr_T) := [(0, cr_iload 0 1),
  (1, cr_iload 1 2),
  (2, cr_icgt 9 5),
  (5, cr_iload 0 6),
  (6, cr_goto 10),
  (9, cr_iload 1 10),
  (10, cr_iret mc ms)]
def t_Ma_min (l : Launch) (s0 : State) (D : va_G) (ca : Nat → ClassId) (e0 d mc ms : Nat) : List (Nat × cr_T) := t_Ma_min_0 l s0 D ca e0 d mc ms
set_option maxHeartbeats 4000000 in
set_option maxRecDepth 20000 in
theorem s_Ma_min_0 {p : Program} {l : Launch} {e : Env} {R : Room} {s : State} {m : MethodId} {args : Array Value} {below : List Frame} {meth : Method} {c : Code} {s0 : State} {D : va_G} {ca : Nat → ClassId} {e0 d mc ms : Nat} {Q : cr_Q} (hl : l.flags = flags0) (Z : cr_Z0 s0 D ca e0) (C : cr_C p R s m meth c (cr_W0 s0) s0.heap.size y_Ma_min c_Ma_min 2 (Option.some FieldType.int) d mc ms) (hem : c.exceptionTable.toList = []) : ∀ x ∈ t_Ma_min_0 l s0 D ca e0 d mc ms, cr_Snd p l e R s m args below meth c s0.heap.size mc ms Q x.1 x.2 := by
  obtain ⟨hx, hb, hml, hown, hr, hlk, hnm, hU, hlo, hR⟩ := C
  have hK := cr_Z0K Z hU
  have hRc : R.cells = mc := by rw [hR]; rfl
  have hRs : R.slots = ms := by rw [hR]; rfl
  unfold t_Ma_min_0
  refine cr_cons (cr_iload_n_ok hx hb d_Ma_min_0 rfl rfl) ?_
  refine cr_cons (cr_iload_n_ok hx hb d_Ma_min_1 rfl rfl) ?_
  refine cr_cons (cr_icgt_ok hx hb d_Ma_min_2 (by decide) rfl) ?_
  refine cr_cons (cr_iload_n_ok hx hb d_Ma_min_5 rfl rfl) ?_
  refine cr_cons (cr_goto_ok hx hb d_Ma_min_6 (by decide)) ?_
  refine cr_cons (cr_iload_n_ok hx hb d_Ma_min_9 rfl rfl) ?_
  refine cr_cons (cr_iret_ok hx hb hr hlk d_Ma_min_10) ?_
  exact cr_nil
theorem s_Ma_min {p : Program} {l : Launch} {e : Env} {R : Room} {s : State} {m : MethodId} {args : Array Value} {below : List Frame} {meth : Method} {c : Code} {s0 : State} {D : va_G} {ca : Nat → ClassId} {e0 d mc ms : Nat} {Q : cr_Q} (hl : l.flags = flags0) (Z : cr_Z0 s0 D ca e0) (C : cr_C p R s m meth c (cr_W0 s0) s0.heap.size y_Ma_min c_Ma_min 2 (Option.some FieldType.int) d mc ms) (hem : c.exceptionTable.toList = []) : ∀ x ∈ t_Ma_min l s0 D ca e0 d mc ms, cr_Snd p l e R s m args below meth c s0.heap.size mc ms Q x.1 x.2 := s_Ma_min_0 hl Z C hem
theorem d_AL_isEmpty_0 : decode c_AL_isEmpty 0 = .ok (.aload_n 0, 1) := by decide +kernel
theorem d_AL_isEmpty_1 : decode c_AL_isEmpty 1 = .ok (.getfield 48, 3) := by decide +kernel
theorem d_AL_isEmpty_4 : decode c_AL_isEmpty 4 = .ok (.ifCond .ne 7, 3) := by decide +kernel
theorem d_AL_isEmpty_7 : decode c_AL_isEmpty 7 = .ok (.iconst 1, 1) := by decide +kernel
theorem d_AL_isEmpty_8 : decode c_AL_isEmpty 8 = .ok (.goto 4, 3) := by decide +kernel
theorem d_AL_isEmpty_11 : decode c_AL_isEmpty 11 = .ok (.iconst 0, 1) := by decide +kernel
theorem d_AL_isEmpty_12 : decode c_AL_isEmpty 12 = .ok (.ireturn, 1) := by decide +kernel
def t_AL_isEmpty_0 (l : Launch) (s0 : State) (D : va_G) (ca : Nat → ClassId) (e0 d mc ms : Nat) : List (Nat × cr_T) := [(0, cr_aload 0 1),
  (1, cr_getf D kc 12 1 4),
  (4, cr_ifne 11 7),
  (7, cr_push (.int 1) 8),
  (8, cr_goto 12),
  (11, cr_push (.int 0) 12),
  (12, cr_zret mc ms .boolean)]
def t_AL_isEmpty (l : Launch) (s0 : State) (D : va_G) (ca : Nat → ClassId) (e0 d mc ms : Nat) : List (Nat × cr_T) := t_AL_isEmpty_0 l s0 D ca e0 d mc ms
set_option maxHeartbeats 4000000 in
set_option maxRecDepth 20000 in
theorem s_AL_isEmpty_0 {p : Program} {l : Launch} {e : Env} {R : Room} {s : State} {m : MethodId} {args : Array Value} {below : List Frame} {meth : Method} {c : Code} {s0 : State} {D : va_G} {ca : Nat → ClassId} {e0 d mc ms : Nat} {Q : cr_Q} (hl : l.flags = flags0) (Z : cr_Z0 s0 D ca e0) (C : cr_C p R s m meth c (cr_W0 s0) s0.heap.size y_AL_isEmpty c_AL_isEmpty 1 (Option.some FieldType.boolean) d mc ms) (hem : c.exceptionTable.toList = []) : ∀ x ∈ t_AL_isEmpty_0 l s0 D ca e0 d mc ms, cr_Snd p l e R s m args below meth c s0.heap.size mc ms Q x.1 x.2 := by
  obtain ⟨hx, hb, hml, hown, hr, hlk, hnm, hU, hlo, hR⟩ := C
  have hK := cr_Z0K Z hU
  have hRc : R.cells = mc := by rw [hR]; rfl
  have hRs : R.slots = ms := by rw [hR]; rfl
  unfold t_AL_isEmpty_0
  refine cr_cons (cr_aload_n_ok hx hb d_AL_isEmpty_0 rfl rfl) ?_
  refine cr_cons (cr_getf_ok (C := R_AL) (T := T_AL) (N := 3) hx hb (k_AL Z hU args) (fun _ h => h) hown hK rfl (by decide) (cr_w Z w_50 rfl hU args) (fun _ h => h) d_AL_isEmpty_1 rfl) ?_
  refine cr_cons (cr_ifne_ok hx hb d_AL_isEmpty_4 (by decide) rfl) ?_
  refine cr_cons (cr_iconst_ok hx hb d_AL_isEmpty_7 (by decide) rfl) ?_
  refine cr_cons (cr_goto_ok hx hb d_AL_isEmpty_8 (by decide)) ?_
  refine cr_cons (cr_iconst_ok hx hb d_AL_isEmpty_11 (by decide) rfl) ?_
  refine cr_cons (cr_zret_ok hx hb hr hlk d_AL_isEmpty_12) ?_
  exact cr_nil
theorem s_AL_isEmpty {p : Program} {l : Launch} {e : Env} {R : Room} {s : State} {m : MethodId} {args : Array Value} {below : List Frame} {meth : Method} {c : Code} {s0 : State} {D : va_G} {ca : Nat → ClassId} {e0 d mc ms : Nat} {Q : cr_Q} (hl : l.flags = flags0) (Z : cr_Z0 s0 D ca e0) (C : cr_C p R s m meth c (cr_W0 s0) s0.heap.size y_AL_isEmpty c_AL_isEmpty 1 (Option.some FieldType.boolean) d mc ms) (hem : c.exceptionTable.toList = []) : ∀ x ∈ t_AL_isEmpty l s0 D ca e0 d mc ms, cr_Snd p l e R s m args below meth c s0.heap.size mc ms Q x.1 x.2 := s_AL_isEmpty_0 hl Z C hem
end
section
theorem d_AL_clear_0 : decode c_AL_clear 0 = .ok (.aload_n 0, 1) := by decide +kernel
theorem d_AL_clear_1 : decode c_AL_clear 1 = .ok (.dup, 1) := by decide +kernel
theorem d_AL_clear_2 : decode c_AL_clear 2 = .ok (.getfield 63, 3) := by decide +kernel
theorem d_AL_clear_5 : decode c_AL_clear 5 = .ok (.iconst 1, 1) := by decide +kernel
theorem d_AL_clear_6 : decode c_AL_clear 6 = .ok (.iadd, 1) := by decide +kernel
theorem d_AL_clear_7 : decode c_AL_clear 7 = .ok (.putfield 63, 3) := by decide +kernel
theorem d_AL_clear_10 : decode c_AL_clear 10 = .ok (.aload_n 0, 1) := by decide +kernel
theorem d_AL_clear_11 : decode c_AL_clear 11 = .ok (.getfield 9, 3) := by decide +kernel
theorem d_AL_clear_14 : decode c_AL_clear 14 = .ok (.astore_n 1, 1) := by decide +kernel
theorem d_AL_clear_15 : decode c_AL_clear 15 = .ok (.aload_n 0, 1) := by decide +kernel
theorem d_AL_clear_16 : decode c_AL_clear 16 = .ok (.getfield 48, 3) := by decide +kernel
theorem d_AL_clear_19 : decode c_AL_clear 19 = .ok (.istore_n 2, 1) := by decide +kernel
theorem d_AL_clear_20 : decode c_AL_clear 20 = .ok (.aload_n 0, 1) := by decide +kernel
theorem d_AL_clear_21 : decode c_AL_clear 21 = .ok (.iconst 0, 1) := by decide +kernel
theorem d_AL_clear_22 : decode c_AL_clear 22 = .ok (.dup_x1, 1) := by decide +kernel
theorem d_AL_clear_23 : decode c_AL_clear 23 = .ok (.putfield 48, 3) := by decide +kernel
theorem d_AL_clear_26 : decode c_AL_clear 26 = .ok (.istore_n 3, 1) := by decide +kernel
theorem d_AL_clear_27 : decode c_AL_clear 27 = .ok (.iload_n 3, 1) := by decide +kernel
theorem d_AL_clear_28 : decode c_AL_clear 28 = .ok (.iload_n 2, 1) := by decide +kernel
theorem d_AL_clear_29 : decode c_AL_clear 29 = .ok (.if_icmp .ge 13, 3) := by decide +kernel
theorem d_AL_clear_32 : decode c_AL_clear 32 = .ok (.aload_n 1, 1) := by decide +kernel
theorem d_AL_clear_33 : decode c_AL_clear 33 = .ok (.iload_n 3, 1) := by decide +kernel
theorem d_AL_clear_34 : decode c_AL_clear 34 = .ok (.aconst_null, 1) := by decide +kernel
theorem d_AL_clear_35 : decode c_AL_clear 35 = .ok (.aastore, 1) := by decide +kernel
theorem d_AL_clear_36 : decode c_AL_clear 36 = .ok (.iinc 3 1, 3) := by decide +kernel
theorem d_AL_clear_39 : decode c_AL_clear 39 = .ok (.goto (-12), 3) := by decide +kernel
theorem d_AL_clear_42 : decode c_AL_clear 42 = .ok (.return_, 1) := by decide +kernel
def t_AL_clear_0 (l : Launch) (s0 : State) (D : va_G) (ca : Nat → ClassId) (e0 d mc ms : Nat) : List (Nat × cr_T) := [(0, cr_aload 0 1),
  (1, cr_dup 2),
  (2, cr_getf D kc 12 2 5),
  (5, cr_push (.int 1) 6),
  (6, cr_iadd 7),
  (7, cr_putf D kc s0.heap.size 12 2 .int 10),
  (10, cr_aload 0 11),
  (11, cr_getf D kc 12 0 14),
  (14, cr_astore 1 15),
  (15, cr_aload 0 16),
  (16, cr_getf D kc 12 1 19),
  (19, cr_istore 2 20),
  (20, cr_aload 0 21),
  (21, cr_push (.int 0) 22),
  (22, cr_dup_x1 23),
  (23, cr_putf D kc s0.heap.size 12 1 .int 26),
  (26, cr_istore 3 27),
  (27, cr_iload 3 28),
  (28, cr_iload 2 29),
  (29, cr_icge 42 32),
  (32, cr_aload 1 33),
  (33, cr_iload 3 34),
  (34, cr_push .null 35),
  (35, cr_aast D kc s0.heap.size (ca 3) cs_obj 36),
  (36, cr_iinc 3 1 39),
  (39, cr_goto 27),
  (42, cr_vret mc ms)]
def t_AL_clear (l : Launch) (s0 : State) (D : va_G) (ca : Nat → ClassId) (e0 d mc ms : Nat) : List (Nat × cr_T) := t_AL_clear_0 l s0 D ca e0 d mc ms
set_option maxHeartbeats 4000000 in
set_option maxRecDepth 20000 in
theorem s_AL_clear_0 {p : Program} {l : Launch} {e : Env} {R : Room} {s : State} {m : MethodId} {args : Array Value} {below : List Frame} {meth : Method} {c : Code} {s0 : State} {D : va_G} {ca : Nat → ClassId} {e0 d mc ms : Nat} {Q : cr_Q} (hl : l.flags = flags0) (Z : cr_Z0 s0 D ca e0) (C : cr_C p R s m meth c (cr_W0 s0) s0.heap.size y_AL_clear c_AL_clear 4 (Option.none : Option FieldType) d mc ms) (hem : c.exceptionTable.toList = []) : ∀ x ∈ t_AL_clear_0 l s0 D ca e0 d mc ms, cr_Snd p l e R s m args below meth c s0.heap.size mc ms Q x.1 x.2 := by
  obtain ⟨hx, hb, hml, hown, hr, hlk, hnm, hU, hlo, hR⟩ := C
  have hK := cr_Z0K Z hU
  have hRc : R.cells = mc := by rw [hR]; rfl
  have hRs : R.slots = ms := by rw [hR]; rfl
  unfold t_AL_clear_0
  refine cr_cons (cr_aload_n_ok hx hb d_AL_clear_0 rfl rfl) ?_
  refine cr_cons (cr_dup_ok hx hb d_AL_clear_1 rfl) ?_
  refine cr_cons (cr_getf_ok (C := R_AL) (T := T_AL) (N := 3) hx hb (k_AL Z hU args) (fun _ h => h) hown hK rfl (by decide) (cr_w Z w_52 rfl hU args) (fun x9 h9 => u_same (cr_w Z w_53 rfl hU args) x9 h9) d_AL_clear_2 rfl) ?_
  refine cr_cons (cr_iconst_ok hx hb d_AL_clear_5 (by decide) rfl) ?_
  refine cr_cons (cr_iadd_ok hx hb d_AL_clear_6 rfl) ?_
  refine cr_cons (cr_putf_ok (C := R_AL) (T := T_AL) (N := 3) tt_AL hx hb (k_AL Z hU args) (fun _ h => h) ty_AL nm_AL hown hK rfl (by decide) (Or.inl (cr_w Z w_52 rfl hU args)) (fun x9 h9 => u_same (cr_w Z w_53 rfl hU args) x9 h9) rfl (by decide +kernel) d_AL_clear_7 rfl) ?_
  refine cr_cons (cr_aload_n_ok hx hb d_AL_clear_10 rfl rfl) ?_
  refine cr_cons (cr_getf_ok (C := R_AL) (T := T_AL) (N := 3) hx hb (k_AL Z hU args) (fun _ h => h) hown hK rfl (by decide) (cr_w Z w_49 rfl hU args) (fun _ h => h) d_AL_clear_11 rfl) ?_
  refine cr_cons (cr_astore_n_ok hx hb d_AL_clear_14 rfl rfl) ?_
  refine cr_cons (cr_aload_n_ok hx hb d_AL_clear_15 rfl rfl) ?_
  refine cr_cons (cr_getf_ok (C := R_AL) (T := T_AL) (N := 3) hx hb (k_AL Z hU args) (fun _ h => h) hown hK rfl (by decide) (cr_w Z w_50 rfl hU args) (fun _ h => h) d_AL_clear_16 rfl) ?_
  refine cr_cons (cr_istore_n_ok hx hb d_AL_clear_19 rfl rfl) ?_
  refine cr_cons (cr_aload_n_ok hx hb d_AL_clear_20 rfl rfl) ?_
  refine cr_cons (cr_iconst_ok hx hb d_AL_clear_21 (by decide) rfl) ?_
  refine cr_cons (cr_dup_x1_ok hx hb d_AL_clear_22 rfl) ?_
  refine cr_cons (cr_putf_ok (C := R_AL) (T := T_AL) (N := 3) tt_AL hx hb (k_AL Z hU args) (fun _ h => h) ty_AL nm_AL hown hK rfl (by decide) (Or.inl (cr_w Z w_50 rfl hU args)) (fun _ h => h) rfl (by decide +kernel) d_AL_clear_23 rfl) ?_
  refine cr_cons (cr_istore_n_ok hx hb d_AL_clear_26 rfl rfl) ?_
  refine cr_cons (cr_iload_n_ok hx hb d_AL_clear_27 rfl rfl) ?_
  refine cr_cons (cr_iload_n_ok hx hb d_AL_clear_28 rfl rfl) ?_
  refine cr_cons (cr_icge_ok hx hb d_AL_clear_29 (by decide) rfl) ?_
  refine cr_cons (cr_aload_n_ok hx hb d_AL_clear_32 rfl rfl) ?_
  refine cr_cons (cr_iload_n_ok hx hb d_AL_clear_33 rfl rfl) ?_
  refine cr_cons (cr_null_ok hx hb d_AL_clear_34 rfl) ?_
  refine cr_cons (cr_aast_ok (t0 := 3) hx hb hK rfl (cs_obj_ok Z hU args) d_AL_clear_35 rfl) ?_
  refine cr_cons (cr_iinc_ok hx hb d_AL_clear_36 (by decide) rfl) ?_
  refine cr_cons (cr_goto_ok hx hb d_AL_clear_39 (by decide)) ?_
  refine cr_cons (cr_vret_ok hx hb hr hlk d_AL_clear_42) ?_
  exact cr_nil
theorem s_AL_clear {p : Program} {l : Launch} {e : Env} {R : Room} {s : State} {m : MethodId} {args : Array Value} {below : List Frame} {meth : Method} {c : Code} {s0 : State} {D : va_G} {ca : Nat → ClassId} {e0 d mc ms : Nat} {Q : cr_Q} (hl : l.flags = flags0) (Z : cr_Z0 s0 D ca e0) (C : cr_C p R s m meth c (cr_W0 s0) s0.heap.size y_AL_clear c_AL_clear 4 (Option.none : Option FieldType) d mc ms) (hem : c.exceptionTable.toList = []) : ∀ x ∈ t_AL_clear l s0 D ca e0 d mc ms, cr_Snd p l e R s m args below meth c s0.heap.size mc ms Q x.1 x.2 := s_AL_clear_0 hl Z C hem
end
section
/-! FRAMES: what a call leaves as it was -/
def cr_Fr (S : Nat → Prop) (H H' : Heap) : Prop := H.size ≤ H'.size ∧ ∀ q : Nat, q < H.size → ¬ S q → H'[q]? = H[q]?
section FRM
variable {S S1 S2 : Nat → Prop} {H H1 H2 : Heap} {D : va_G} {cl : List vw_C} {s0 : State}
theorem cr_Fr.refl (H : Heap) : cr_Fr S H H := ⟨Nat.le_refl _, fun _ _ _ => rfl⟩
theorem cr_Fr.mono (h : cr_Fr S H H1) (hs : ∀ q, q < H.size → S q → S1 q) : cr_Fr S1 H H1 := ⟨h.1, fun q a b => h.2 q a (fun c => b (hs q a c))⟩
theorem cr_Fr.trans (h : cr_Fr S H H1) (h2 : cr_Fr S1 H1 H2) (hs : ∀ q, q < H.size → S q → S2 q) (hs1 : ∀ q, q < H.size → S1 q → S2 q) : cr_Fr S2 H H2 :=
  ⟨Nat.le_trans h.1 h2.1, fun q a b => (h2.2 q (Nat.lt_of_lt_of_le a h.1) (fun c => b (hs1 q a c))).trans (h.2 q a (fun c => b (hs q a c)))⟩
theorem cr_Up.fr {a : Nat} {x : va_E} (h : cr_Up D cl H a x H1) : cr_Fr (fun q => q = a) H H1 := ⟨by rw [h.1]; exact Nat.le_refl _, fun q _ b => h.2.2 q b⟩
theorem cr_Nw.fr {lo q : Nat} {x : va_E} (h : cr_Nw D cl lo H q x H1) : cr_Fr (fun _ => False) H H1 := ⟨by rw [h.2.2.1]; omega, fun y a _ => h.2.2.2.2 y a⟩
theorem cr_at_eq {q : Nat} {x : va_E} (h : va_at D cl (q, x) H) (e : H1[q]? = H[q]?) : va_at D cl (q, x) H1 := by
  cases x with
  | inl a => exact (show H1[q]? = _ from e.trans h)
  | inr o =>
    obtain ⟨r, h1, h2⟩ := h
    exact ⟨r, h1, h2.kept e⟩
theorem cr_at_lt {q : Nat} {x : va_E} (h : va_at D cl (q, x) H) : q < H.size := by
  cases x with
  | inl a => exact (Array.getElem?_eq_some_iff.mp (show H[q]? = some _ from h)).1
  | inr o =>
    obtain ⟨r, h1, cell, h2, -⟩ := h
    exact (Array.getElem?_eq_some_iff.mp h2).1
theorem cr_Fr.at (h : cr_Fr S H H1) {q : Nat} {x : va_E} (hx : va_at D cl (q, x) H) (hs : ¬ S q) : va_at D cl (q, x) H1 := cr_at_eq hx (h.2 q (cr_at_lt hx) hs)
theorem cr_Fr.old (h : cr_Fr S H H1) (ho : cr_Old s0 H) (hz : s0.heap.size ≤ H.size) (hs : ∀ q, S q → s0.heap.size ≤ q) : cr_Old s0 H1 := fun q hq => (h.2 q (Nat.lt_of_lt_of_le hq hz) (fun c => by have := hs q c; omega)).trans (ho q hq)
end FRM
end
section
/-! CONTRACTS, the library's lists -/
abbrev cr_c (l : Launch) (s0 : State) (y : MethodName) (cw : Cond) (d mc ms : Nat) (av : List Value) (H : Heap) (Q : cr_Q) : Prop := cr_M l (cr_W0 s0) s0.heap.size y cw d mc ms av H Q
abbrev cr_pu (v : Option Value) (H : Heap) : cr_Q := fun o H' => o = .inl v ∧ H' = H
/-- a call that changes nothing and throws nothing -/
theorem cr_aft {l : Launch} {U : State → Prop} {lo : Nat} {y : MethodName} {cw : Cond} {d mc ms d' mc' ms' nx : Nat} {K : cr_K} {Q : cr_Q} {lv : cr_Lv} {av r : List Value} {H : Heap} {k n : Nat} {v : Option Value}
    (hM : cr_M l U lo y cw d' mc' ms' av H (cr_pu v H)) (h1 : d' + 1 ≤ d) (h2 : k + mc' ≤ mc) (h3 : n + ms' ≤ ms) (h4 : (r.map fun v => v.category).sum ≤ 8) (h : K nx lv (v.toList ++ r) H (k + mc') (n + ms')) : cr_after l U lo y cw d mc ms nx K Q lv av r H k n :=
  ⟨d', mc', ms', _, hM, h1, h2, h3, h4, fun w H' q _ => by obtain ⟨q1, q2⟩ := q; cases q1; subst q2; exact h, fun kd H' q _ => by cases q.1⟩
theorem cr_le {n m : Nat} (h : Nat.ble n m = true) : n ≤ m := Nat.le_of_ble_eq_true h
theorem cr_nle {a b : Nat} (h : b < a) (ha : a < 2 ^ 31) : ¬ nI a ≤ nI b := fun h9 => absurd (nI_lt h ha) (Int32.not_lt.mpr h9)
section JDK
variable {l : Launch} {s0 : State} {D : va_G} {ca : Nat → ClassId} {e0 : Nat} {H : Heap}
theorem j_AL_size (hl : l.flags = flags0) (Z : cr_Z0 s0 D ca e0) {a : Nat} {x z : Value} {n : Int32} (h : va_at D kc (a, .inr (12, [x, .int n, z])) H) : cr_c l s0 y_AL_size cw_AL_size 0 0 0 [.ref a] H (cr_pu (some (.int n)) H) := by
  refine cr_enter (by decide +kernel) (Nat.le_of_ble_eq_true rfl) (fun hlo p e s m args below meth c C hem hH => ?_)
  refine cr_vc [] 10 (s_AL_size hl Z C hem) (fun K hK => ?_)
  conv => whnf
  refine ⟨_, h, ?_⟩
  conv => whnf
  exact ⟨Nat.le_refl _, Nat.le_refl _, rfl, rfl⟩
theorem j_AL_elementData (hl : l.flags = flags0) (Z : cr_Z0 s0 D ca e0) {a ea N i v : Nat} {x z : Value} {f : Nat → Option Nat} (h : va_at D kc (a, .inr (12, [.ref ea, x, z])) H) (h2 : va_at D kc (ea, .inl (ca 3, N, .inr (.inr (.inr (.inr f))))) H) (hi : i < N) (hN : N < 2 ^ 31) (hv : f i = some v) : cr_c l s0 y_AL_elementData cw_AL_elementData 0 0 0 [.ref a, .int (nI i)] H (cr_pu (some (.ref v)) H) := by
  refine cr_enter (by decide +kernel) (Nat.le_of_ble_eq_true rfl) (fun hlo p e s m args below meth c C hem hH => ?_)
  refine cr_vc [] 10 (s_AL_elementData hl Z C hem) (fun K hK => ?_)
  conv => whnf
  refine ⟨_, h, ?_⟩
  conv => whnf
  refine ⟨N, f, i, some v, h2, rfl, hi, hN, hv, ?_⟩
  conv => whnf
  exact ⟨Nat.le_refl _, Nat.le_refl _, rfl, rfl⟩
theorem j_AL_isEmpty (hl : l.flags = flags0) (Z : cr_Z0 s0 D ca e0) {a : Nat} {x z : Value} {n : Int32} (h : va_at D kc (a, .inr (12, [x, .int n, z])) H) : cr_c l s0 y_AL_isEmpty cw_AL_isEmpty 0 0 0 [.ref a] H (cr_pu (some (.int (if n = 0 then 1 else 0))) H) := by
  refine cr_enter (by decide +kernel) (Nat.le_of_ble_eq_true rfl) (fun hlo p e s m args below meth c C hem hH => ?_)
  refine cr_vc [] 10 (s_AL_isEmpty hl Z C hem) (fun K hK => ?_)
  conv => whnf
  refine ⟨_, h, ?_⟩
  conv => whnf
  refine ⟨fun h => ?_, fun h => ?_⟩
  · conv => whnf
    rw [if_neg h]
    exact ⟨rfl, Nat.le_refl _, Nat.le_refl _, rfl, rfl⟩
  · conv => whnf
    rw [if_pos (by simpa using h)]
    exact ⟨rfl, Nat.le_refl _, Nat.le_refl _, rfl, rfl⟩
/-- Arrays.fill of ints -/
theorem j_Ar_fill (hl : l.flags = flags0) (Z : cr_Z0 s0 D ca e0) {a N : Nat} {f : Nat → Int32} {v : Int32} (h : va_at D kc (a, .inl (ca 0, N, .inl f)) H) (hN : N < 2 ^ 31) (ha : s0.heap.size ≤ a) : cr_c l s0 y_Ar_fill cw_Ar_fill 0 0 0 [.ref a, .int v] H (fun o H' => o = .inl none ∧ ∃ g, (∀ i, i < N → g i = v) ∧ cr_Up D kc H a (.inl (ca 0, N, .inl g)) H') := by
  refine cr_enter (by decide +kernel) (Nat.le_of_ble_eq_true rfl) (fun hlo p e s m args below meth c C hem hH => ?_)
  have loop : ∀ (j i : Nat) (H1 : Heap) (g : Nat → Int32), i + j = N → (∀ q, q < i → g q = v) → cr_Up D kc H a (.inl (ca 0, N, .inl g)) H1 → cr_G p l e (cr_rm 0 0 0) s m args below meth c s0.heap.size 0 0 (fun o H' => o = .inl none ∧ ∃ g, (∀ i, i < N → g i = v) ∧ cr_Up D kc H a (.inl (ca 0, N, .inl g)) H') 5 [some (.ref a), some (.int v), some (.int (nI i)), some (.int (nI N))] [] H1 0 0 := by
    intro j
    induction j with
    | zero =>
      intro i H1 g hij hg hup
      refine cr_vc [5] 20 (s_Ar_fill hl Z C hem) (fun K hK => ?_)
      conv => whnf
      refine ⟨fun h9 => ?_, fun h9 => absurd (by rw [show i = N by omega]; exact Int32.le_refl _) h9⟩
      conv => whnf
      exact ⟨Nat.le_refl _, Nat.le_refl _, rfl, g, fun q hq => hg q (by omega), hup⟩
    | succ j ih =>
      intro i H1 g hij hg hup
      refine cr_vc [5] 20 (s_Ar_fill hl Z C hem) (fun K hK => ?_)
      conv => whnf
      refine ⟨fun h9 => absurd h9 (cr_nle (by omega) (by omega)), fun h9 => ?_⟩
      conv => whnf
      refine ⟨N, g, i, hup.2.1, ha, rfl, by omega, hN, fun H2 hu2 => ?_⟩
      conv => whnf
      refine ⟨cr_le rfl, ?_⟩
      conv => whnf
      rw [nI_1]
      exact hK _ _ _ _ _ _ (ih (i + 1) H2 (upd g i v) (by omega) (fun q hq => by
        by_cases h8 : q = i
        · simp [upd, h8]
        · simp [upd, h8]
          exact hg q (by omega)) ⟨hu2.1.trans hup.1, hu2.2.1, fun q hq => (hu2.2.2 q hq).trans (hup.2.2 q hq)⟩)
  refine cr_vc [5] 20 (s_Ar_fill hl Z C hem) (fun K hK => ?_)
  conv => whnf
  refine ⟨cr_le rfl, ?_⟩
  conv => whnf
  refine ⟨_, h, ?_⟩
  conv => whnf
  refine ⟨cr_le rfl, ?_⟩
  conv => whnf
  exact hK _ _ _ _ _ _ (loop N 0 H f (by omega) (fun q hq => by omega) ⟨rfl, h, fun q _ => rfl⟩)
end JDK
section JDK2
variable {l : Launch} {s0 : State} {D : va_G} {ca : Nat → ClassId} {e0 : Nat} {H : Heap}
theorem j_Pr_checkIndex (hl : l.flags = flags0) (Z : cr_Z0 s0 D ca e0) {i n : Nat} (hi : i < n) (hn : n < 2 ^ 31) : cr_c l s0 y_Pr_checkIndex cw_Pr_checkIndex 0 0 0 [.int (nI i), .int (nI n), .null] H (cr_pu (some (.int (nI i))) H) := by
  refine cr_enter (by decide +kernel) (Nat.le_of_ble_eq_true rfl) (fun hlo p e s m args below meth c C hem hH => ?_)
  refine cr_vc [] 10 (s_Pr_checkIndex hl Z C hem) (fun K hK => ?_)
  conv => whnf
  refine ⟨fun h => absurd h (nI_pos (by omega)), fun h => ?_⟩
  conv => whnf
  refine ⟨fun h => ?_, fun h => absurd (nI_lt hi (by omega)) h⟩
  conv => whnf
  exact ⟨Nat.le_refl _, Nat.le_refl _, rfl, rfl⟩
theorem j_Ob_checkIndex (hl : l.flags = flags0) (Z : cr_Z0 s0 D ca e0) {i n : Nat} (hi : i < n) (hn : n < 2 ^ 31) : cr_c l s0 y_Ob_checkIndex cw_Ob_checkIndex 1 0 0 [.int (nI i), .int (nI n)] H (cr_pu (some (.int (nI i))) H) := by
  refine cr_enter (by decide +kernel) (Nat.le_of_ble_eq_true rfl) (fun hlo p e s m args below meth c C hem hH => ?_)
  refine cr_vc [] 10 (s_Ob_checkIndex hl Z C hem) (fun K hK => ?_)
  conv => whnf
  refine ⟨rfl, cr_aft (j_Pr_checkIndex hl Z hi hn) (by decide) (by decide) (by decide) (by decide) ?_⟩
  conv => whnf
  exact ⟨Nat.le_refl _, Nat.le_refl _, rfl, rfl⟩
/-- a list's own parts: the object at a, the array at ea (or the library's empty one), n elements at f 0 .. -/
def cr_li (s0 : State) (D : va_G) (ca : Nat → ClassId) (e0 : Nat) (H : Heap) (a ea n : Nat) (f : Nat → Nat) : Prop :=
  s0.heap.size ≤ a ∧ ∃ md : Int32, va_at D kc (a, .inr (12, [.ref ea, .int (nI n), .int md])) H ∧ ((n = 0 ∧ ea = e0) ∨ (s0.heap.size ≤ ea ∧ ∃ N g, n ≤ N ∧ N ≤ 109 ∧ 2 ≤ N ∧ va_at D kc (ea, .inl (ca 3, N, .inr (.inr (.inr (.inr g))))) H ∧ ∀ i, i < n → g i = some (f i)))
theorem j_AL_get (hl : l.flags = flags0) (Z : cr_Z0 s0 D ca e0) {a ea n i : Nat} {f : Nat → Nat} (h : cr_li s0 D ca e0 H a ea n f) (hi : i < n) : cr_c l s0 y_AL_get cw_AL_get 2 0 0 [.ref a, .int (nI i)] H (cr_pu (some (.ref (f i))) H) := by
  obtain ⟨ha, md, h1, ⟨h2, -⟩ | ⟨hea, N, g, h2, h3, h3', h4, h5⟩⟩ := h
  · omega
  refine cr_enter (by decide +kernel) (Nat.le_of_ble_eq_true rfl) (fun hlo p e s m args below meth c C hem hH => ?_)
  refine cr_vc [] 20 (s_AL_get hl Z C hem) (fun K hK => ?_)
  conv => whnf
  refine ⟨_, h1, ?_⟩
  conv => whnf
  refine ⟨rfl, cr_aft (j_Ob_checkIndex hl Z hi (by omega)) (by decide) (by decide) (by decide) (by decide) ?_⟩
  conv => whnf
  refine ⟨rfl, ?_⟩
  conv => whnf
  refine ⟨rfl, _, h1, cr_aft (j_AL_elementData hl Z h1 h4 (by omega) (by omega) (h5 i hi)) (by decide) (by decide) (by decide) (by decide) ?_⟩
  conv => whnf
  exact ⟨Nat.le_refl _, Nat.le_refl _, rfl, rfl⟩
theorem j_AL_sizeL (hl : l.flags = flags0) (Z : cr_Z0 s0 D ca e0) {a ea n : Nat} {f : Nat → Nat} (h : cr_li s0 D ca e0 H a ea n f) : cr_c l s0 y_AL_size cw_AL_size 0 0 0 [.ref a] H (cr_pu (some (.int (nI n))) H) := by
  obtain ⟨ha, md, h1, -⟩ := h
  exact j_AL_size hl Z h1
theorem j_Ar_copyOf1 (hl : l.flags = flags0) (Z : cr_Z0 s0 D ca e0) {ea N N' mi : Nat} {g : Nat → Option Nat} (h : va_at D kc (ea, .inl (ca 3, N, .inr (.inr (.inr (.inr g))))) H) (hN : N ≤ N') (hN' : N' ≤ 200) (hmi : va_Mi "[Ljava/lang/Object;" mi s0) (hel : ∀ i y, i < N → g i = some y → ∃ ci fs, ci ∈ cs_obj ∧ va_at D kc (y, .inr (ci, fs)) H) :
    cr_c l s0 y_Ar_copyOf1 cw_Ar_copyOf1 2 1 N' [.ref ea, .int (nI N'), .ref mi] H (fun o H' => o = .inl (some (.ref H.size)) ∧ cr_Nw D kc s0.heap.size H H.size (.inl (ca 3, N', .inr (.inr (.inr (.inr (va_cpy g (fun _ => none) 0 0 N)))))) H') := by
  refine cr_enter (by decide +kernel) (Nat.le_of_ble_eq_true rfl) (fun hlo p e s m args below meth c C hem hH => ?_)
  refine cr_vc [] 40 (s_Ar_copyOf1 hl Z C hem) (fun K hK => ?_)
  conv => whnf
  intro mi' hmi'
  conv => whnf
  refine ⟨fun h9 => absurd (cr_Mi_eq hmi hmi') h9, fun _ => ?_⟩
  conv => whnf
  refine ⟨N', rfl, by omega, by omega, by decide, by omega, fun q H1 hnw => ?_⟩
  obtain ⟨hq, hq2, hsz, hat, hfr⟩ := hnw
  subst hq
  conv => whnf
  refine ⟨cr_le rfl, ?_⟩
  have h1 : va_at D kc (ea, .inl (ca 3, N, .inr (.inr (.inr (.inr g))))) H1 := cr_at_eq h (hfr ea (cr_at_lt h))
  conv => whnf
  refine Or.inl ⟨_, h1, ?_⟩
  conv => whnf
  refine ⟨rfl, cr_le rfl, cr_le rfl, by omega, by omega, ?_⟩
  have emin : (if nI N' < nI N then nI N' else nI N) = nI N := if_neg (nI_nlt (by omega) (by omega))
  rw [emin]
  conv => whnf
  refine ⟨rfl, by decide, by decide, N, N', g, fun _ => none, 0, 0, N, h1, hat, hq2, rfl, rfl, rfl, by omega, by omega, by omega, by omega, ?_, fun H2 hup => ?_⟩
  · intro i9 y hi9 hy
    rw [Nat.zero_add] at hy
    obtain ⟨ci, fs, hci, hv⟩ := hel i9 y hi9 hy
    exact ⟨ci, fs, hci, cr_at_eq hv (hfr y (cr_at_lt hv))⟩
  conv => whnf
  refine ⟨by omega, by omega, rfl, rfl, hq2, by rw [hup.1]; exact hsz, hup.2.1, fun y hy => (hup.2.2 y (by omega)).trans (hfr y hy)⟩
theorem j_Ar_copyOf0 (hl : l.flags = flags0) (Z : cr_Z0 s0 D ca e0) {ea N N' : Nat} {g : Nat → Option Nat} (h : va_at D kc (ea, .inl (ca 3, N, .inr (.inr (.inr (.inr g))))) H) (hN : N ≤ N') (hN' : N' ≤ 200) (hel : ∀ i y, i < N → g i = some y → ∃ ci fs, ci ∈ cs_obj ∧ va_at D kc (y, .inr (ci, fs)) H) :
    cr_c l s0 y_Ar_copyOf0 cw_Ar_copyOf0 3 1 N' [.ref ea, .int (nI N')] H (fun o H' => o = .inl (some (.ref H.size)) ∧ cr_Nw D kc s0.heap.size H H.size (.inl (ca 3, N', .inr (.inr (.inr (.inr (va_cpy g (fun _ => none) 0 0 N)))))) H') := by
  refine cr_enter (by decide +kernel) (Nat.le_of_ble_eq_true rfl) (fun hlo p e s m args below meth c C hem hH => ?_)
  refine cr_vc [] 40 (s_Ar_copyOf0 hl Z C hem) (fun K hK => ?_)
  conv => whnf
  refine ⟨rfl, by decide, cr_le rfl, ⟨_, h⟩, fun mi hmi => ?_⟩
  conv => whnf
  refine ⟨rfl, 2, 1, N', _, j_Ar_copyOf1 hl Z h hN hN' hmi hel, by decide, by decide, by omega, by decide, fun v H' hq _ => ?_, fun kd H' hq _ => by cases hq.1⟩
  obtain ⟨hq1, hq2⟩ := hq
  cases hq1
  conv => whnf
  exact ⟨by omega, by omega, rfl, hq2⟩
theorem j_As_newLength (hl : l.flags = flags0) (Z : cr_Z0 s0 D ca e0) {N : Nat} (hN : 2 ≤ N) (hN' : N ≤ 1000) : cr_c l s0 y_As_newLength cw_As_newLength 1 0 0 [.int (nI N), .int 1, .int (nI (N / 2))] H (cr_pu (some (.int (nI (N + N / 2)))) H) := by
  refine cr_enter (by decide +kernel) (Nat.le_of_ble_eq_true rfl) (fun hlo p e s m args below meth c C hem hH => ?_)
  refine cr_vc [] 40 (s_As_newLength hl Z C hem) (fun K hK => ?_)
  conv => whnf
  refine ⟨rfl, cr_le rfl, cr_le rfl, cr_le rfl, cr_le rfl, ?_⟩
  have e1 : nI N + (if (1 : Int32) < nI (N / 2) then nI (N / 2) else 1) = nI (N + N / 2) := by
    by_cases h : 1 < N / 2
    · have h9 : (1 : Int32) < nI (N / 2) := nI_lt (a := 1) h (by omega)
      rw [if_pos h9]
      exact nI_add N (N / 2)
    · have h9 : ¬ (1 : Int32) < nI (N / 2) := nI_nlt (a := 1) (by omega) (by decide)
      rw [if_neg h9, show N / 2 = 1 by omega]
      exact nI_add N 1
  conv => whnf
  rw [e1]
  refine ⟨cr_le rfl, ?_⟩
  conv => whnf
  refine ⟨fun h9 => absurd h9 (nI_nle (by omega) (by omega)), fun _ => ?_⟩
  conv => whnf
  refine ⟨fun h9 => absurd h9 (show ¬ nI 2147483639 < nI (N + N / 2) from nI_nlt (by omega) (by decide)), fun _ => ?_⟩
  conv => whnf
  exact ⟨Nat.le_refl _, Nat.le_refl _, rfl, rfl⟩
end JDK2
end
section
/-! CONTRACTS, the library's lists: growing, adding, clearing, making -/
section JDK3
variable {l : Launch} {s0 : State} {D : va_G} {ca : Nat → ClassId} {e0 : Nat} {H : Heap}
abbrev cr_ar (ca : Nat → ClassId) (N : Nat) (g : Nat → Option Nat) : va_E := .inl (ca 3, N, .inr (.inr (.inr (.inr g))))
/-- an array is no object -/
theorem cr_li_ne (Z : cr_Z0 s0 D ca e0) {a ea N : Nat} {fs : List Value} {g : Nat → Option Nat} (h1 : va_at D kc (a, .inr (12, fs)) H) (h2 : va_at D kc (ea, cr_ar ca N g) H) : ea ≠ a := by
  intro e
  subst e
  obtain ⟨r, r1, cell, r2, r3, r4, r5⟩ := h1
  have r6 : H[ea]? = some (vp_cell (ca 3) (N, .inr (.inr (.inr (.inr g))))) := h2
  cases r2.symm.trans r6
  have hK := Z.2.1
  obtain ⟨-, k0, hk0, hkk⟩ := (hK.1 12 _ (show kc[12]? = some (R_AL, T_AL, 3) from rfl)).2
  obtain ⟨kA, comp, k1, k2, -⟩ := (hK.2 3 _ (show (cr_ty ca)[3]? = some (ca 3, .object "java/lang/Object") from rfl)).2
  rw [← r3] at hk0
  cases k1.symm.trans hk0
  rw [k2] at hkk
  cases hkk
/-- a list whose array is full gets a greater one; what it had is there -/
def cr_gr (s0 : State) (D : va_G) (ca : Nat → ClassId) (H : Heap) (a n : Nat) (md : Int32) (f : Nat → Nat) : cr_Q := fun o H' =>
  o = .inl (some (.ref H.size)) ∧ s0.heap.size ≤ H.size ∧ (∃ N' g', n < N' ∧ N' ≤ 109 ∧ 2 ≤ N' ∧ va_at D kc (H.size, cr_ar ca N' g') H' ∧ ∀ i, i < n → g' i = some (f i)) ∧ va_at D kc (a, .inr (12, [.ref H.size, .int (nI n), .int md])) H' ∧ cr_Fr (fun q => q = a) H H'
theorem j_AL_grow1_first (hl : l.flags = flags0) (Z : cr_Z0 s0 D ca e0) (hold : cr_Old s0 H) {a : Nat} {md : Int32} {f : Nat → Nat} (ha : s0.heap.size ≤ a) (h : va_at D kc (a, .inr (12, [.ref e0, .int (nI 0), .int md])) H) :
    cr_c l s0 y_AL_grow1 cw_AL_grow1 4 1 109 [.ref a, .int (nI 1)] H (cr_gr s0 D ca H a 0 md f) := by
  refine cr_enter (by decide +kernel) (Nat.le_of_ble_eq_true rfl) (fun hlo p e s m args below meth c C hem hH => ?_)
  refine cr_vc [] 60 (s_AL_grow1 hl Z C hem) (fun K hK => ?_)
  conv => whnf
  refine ⟨_, h, ?_⟩
  conv => whnf
  refine Or.inr ⟨rfl, hold, ?_⟩
  conv => whnf
  refine ⟨cr_le rfl, ?_⟩
  conv => whnf
  refine ⟨fun h9 => absurd h9 (by decide), fun _ => ?_⟩
  conv => whnf
  refine ⟨_, h, ?_⟩
  conv => whnf
  refine ⟨hold, ?_⟩
  conv => whnf
  refine ⟨fun _ => ?_, fun h9 => absurd rfl h9⟩
  conv => whnf
  refine ⟨rfl, cr_le rfl, cr_le rfl, cr_le rfl, cr_le rfl, ?_⟩
  conv => whnf
  refine ⟨10, by decide, by decide, by decide, by decide, by decide, fun q H1 hnw => ?_⟩
  obtain ⟨hq, hq2, hsz, hat, hfr⟩ := hnw
  subst hq
  conv => whnf
  refine ⟨rfl, rfl, ?_⟩
  conv => whnf
  refine ⟨_, cr_at_eq h (hfr a (cr_at_lt h)), ha, ⟨rfl, rfl⟩, ?_⟩
  conv => whnf
  intro H2 hup
  conv => whnf
  have hlt := cr_at_lt h
  refine ⟨by decide, by decide, rfl, hq2, ⟨10, _, by decide, by decide, by decide, cr_at_eq hat (hup.2.2 _ (by omega)), fun i hi => by omega⟩, hup.2.1, by rw [hup.1, hsz]; omega, fun q h1 h2 => (hup.2.2 q h2).trans (hfr q h1)⟩
theorem j_AL_grow1_more (hl : l.flags = flags0) (Z : cr_Z0 s0 D ca e0) {a ea N : Nat} {md : Int32} {g : Nat → Option Nat} {f : Nat → Nat} (ha : s0.heap.size ≤ a) (h : va_at D kc (a, .inr (12, [.ref ea, .int (nI N), .int md])) H) (h2 : va_at D kc (ea, cr_ar ca N g) H) (hN : 2 ≤ N) (hN' : N ≤ 72) (hg : ∀ i, i < N → g i = some (f i)) (hel : ∀ i, i < N → ∃ ci fs, ci ∈ cs_obj ∧ va_at D kc (f i, .inr (ci, fs)) H) :
    cr_c l s0 y_AL_grow1 cw_AL_grow1 4 1 109 [.ref a, .int (nI (N + 1))] H (cr_gr s0 D ca H a N md f) := by
  refine cr_enter (by decide +kernel) (Nat.le_of_ble_eq_true rfl) (fun hlo p e s m args below meth c C hem hH => ?_)
  refine cr_vc [] 60 (s_AL_grow1 hl Z C hem) (fun K hK => ?_)
  have e2 : nI (N + 1) - nI N = 1 := by
    have k := pk_sub (a := N + 1) (b := N) (by omega)
    rw [Nat.add_sub_cancel_left] at k
    exact k
  have e3 : nI N >>> ((1 : Int32) &&& 31) = nI (N / 2) := by
    have k := pk_shrN (n := N) (by omega) ((1 : Int32) &&& 31) 1 (by decide)
    rw [Nat.pow_one] at k
    exact k
  conv => whnf
  refine ⟨_, h, ?_⟩
  conv => whnf
  refine Or.inl ⟨_, h2, ?_⟩
  conv => whnf
  refine ⟨cr_le rfl, ?_⟩
  conv => whnf
  refine ⟨fun _ => ?_, fun h9 => absurd (show nI 0 < nI N from nI_lt (by omega) (by omega)) h9⟩
  conv => whnf
  refine ⟨rfl, ?_⟩
  conv => whnf
  rw [e2, e3]
  refine cr_aft (j_As_newLength hl Z hN (by omega)) (by decide) (by decide) (by decide) (by decide) ?_
  conv => whnf
  refine ⟨cr_le rfl, ?_⟩
  conv => whnf
  refine ⟨_, h, ?_⟩
  conv => whnf
  refine ⟨rfl, 3, 1, N + N / 2, _, j_Ar_copyOf0 hl Z h2 (by omega) (by omega) (fun i y hi hy => by rw [hg i hi] at hy; cases hy; exact hel i hi), by decide, by decide, by omega, cr_le rfl, fun v H1 hq _ => ?_, fun kd H' hq _ => by cases hq.1⟩
  obtain ⟨hq1, -, hq2, hsz, hat, hfr⟩ := hq
  cases hq1
  conv => whnf
  refine ⟨rfl, rfl, ?_⟩
  conv => whnf
  refine ⟨_, cr_at_eq h (hfr a (cr_at_lt h)), ha, ⟨rfl, rfl⟩, ?_⟩
  conv => whnf
  intro H2 hup
  conv => whnf
  have hlt := cr_at_lt h
  refine ⟨by omega, by omega, rfl, hq2, ⟨N + N / 2, _, by omega, by omega, by omega, cr_at_eq hat (hup.2.2 _ (by omega)), fun i hi => ?_⟩, hup.2.1, by rw [hup.1, hsz]; omega, fun q h1 h2 => (hup.2.2 q h2).trans (hfr q h1)⟩
  rw [va_cpy, if_pos ⟨Nat.zero_le _, by omega⟩, Nat.zero_add]
  exact hg i hi
theorem j_AL_grow0 (hl : l.flags = flags0) (Z : cr_Z0 s0 D ca e0) {a ea n : Nat} {md : Int32} {f : Nat → Nat} (h : va_at D kc (a, .inr (12, [.ref ea, .int (nI n), .int md])) H) (hc : cr_c l s0 y_AL_grow1 cw_AL_grow1 4 1 109 [.ref a, .int (nI (n + 1))] H (cr_gr s0 D ca H a n md f)) :
    cr_c l s0 y_AL_grow0 cw_AL_grow0 5 1 109 [.ref a] H (cr_gr s0 D ca H a n md f) := by
  refine cr_enter (by decide +kernel) (Nat.le_of_ble_eq_true rfl) (fun hlo p e s m args below meth c C hem hH => ?_)
  refine cr_vc [] 60 (s_AL_grow0 hl Z C hem) (fun K hK => ?_)
  conv => whnf
  refine ⟨_, h, ?_⟩
  conv => whnf
  refine ⟨rfl, ?_⟩
  conv => whnf
  rw [nI_1]
  refine ⟨_, h, 4, 1, 109, _, hc, by decide, by decide, by decide, cr_le rfl, fun v H1 hq _ => ?_, fun kd H' hq _ => by cases hq.1⟩
  obtain ⟨hq1, hq2⟩ := hq
  cases hq1
  conv => whnf
  exact ⟨by decide, by decide, rfl, hq2⟩
/-- the places that a list's change may touch -/
def cr_tp (s0 : State) (a ea : Nat) : Nat → Prop := fun q => q = a ∨ (q = ea ∧ s0.heap.size ≤ q)
def cr_ad (s0 : State) (D : va_G) (ca : Nat → ClassId) (e0 : Nat) (H : Heap) (a ea n v : Nat) (f : Nat → Nat) (r : Option Value) : cr_Q := fun o H' =>
  o = .inl r ∧ ∃ ea', cr_li s0 D ca e0 H' a ea' (n + 1) (fun i => if i = n then v else f i) ∧ (ea' = ea ∨ ea' = H.size) ∧ cr_Fr (cr_tp s0 a ea) H H'
theorem j_AL_add1 (hl : l.flags = flags0) (Z : cr_Z0 s0 D ca e0) (hold : cr_Old s0 H) {a ea n v : Nat} {f : Nat → Nat} (h : cr_li s0 D ca e0 H a ea n f) (hn : n ≤ 72) (hel : ∀ i, i < n → ∃ ci fs, ci ∈ cs_obj ∧ va_at D kc (f i, .inr (ci, fs)) H) (hv : ∃ ci fs, ci ∈ cs_obj ∧ va_at D kc (v, .inr (ci, fs)) H) (hva : v ≠ a) :
    cr_c l s0 y_AL_add1 cw_AL_add1 6 1 109 [.ref a, .ref v, .ref ea, .int (nI n)] H (cr_ad s0 D ca e0 H a ea n v f none) := by
  obtain ⟨ha, md, h1, hd⟩ := h
  refine cr_enter (by decide +kernel) (Nat.le_of_ble_eq_true rfl) (fun hlo p e s m args below meth c C hem hH => ?_)
  -- behind the growing
  have fin : ∀ (ea' N : Nat) (g : Nat → Option Nat) (H1 : Heap) (k n9 : Nat), k ≤ 1 → n9 ≤ 109 → s0.heap.size ≤ ea' → n < N → N ≤ 109 → 2 ≤ N → va_at D kc (ea', cr_ar ca N g) H1 → (∀ i, i < n → g i = some (f i)) → va_at D kc (a, .inr (12, [.ref ea', .int (nI n), .int md])) H1 → (ea' = ea ∨ ea' = H.size) → a ≠ ea' → cr_Fr (fun q => q = a) H H1 →
      cr_G p l e (cr_rm 6 1 109) s m args below meth c s0.heap.size 1 109 (cr_ad s0 D ca e0 H a ea n v f none) 11 [some (.ref a), some (.ref v), some (.ref ea'), some (.int (nI n))] [] H1 k n9 := by
    intro ea' N g H1 k n9 hk hn9 hea hN hN1 hN2 hat hg hab hee hae hfr
    refine cr_vc [] 40 (s_AL_add1 hl Z C hem) (fun K hK => ?_)
    obtain ⟨ci, fs, hci, hv⟩ := hv
    conv => whnf
    refine ⟨N, g, n, ci, fs, hat, hea, rfl, hN, by omega, hci, hfr.at hv hva, fun H2 hup => ?_⟩
    conv => whnf
    refine ⟨_, cr_at_eq hab (hup.2.2 a hae), ha, ⟨rfl, rfl⟩, ?_⟩
    conv => whnf
    intro H3 hup3
    conv => whnf
    refine ⟨hk, hn9, rfl, ea', ⟨ha, md, ?_, Or.inr ⟨hea, N, va_up g n (some v), hN, hN1, hN2, cr_at_eq hup.2.1 (hup3.2.2 ea' (Ne.symm hae)), fun i hi => ?_⟩⟩, hee, ?_⟩
    · have h9 := hup3.2.1
      rw [nI_1] at h9
      exact h9
    · by_cases e : i = n
      · simp [va_up, e]
      · simp [va_up, e]
        exact hg i (by omega)
    · refine (hfr.trans hup.fr (S2 := cr_tp s0 a ea) (fun q _ e => Or.inl e) (fun q hq e => ?_)).trans hup3.fr (fun q _ e => e) (fun q _ e => Or.inl e)
      rcases hee with rfl | rfl
      · exact Or.inr ⟨e, by rw [e]; exact hea⟩
      · omega
  have hlt := cr_at_lt h1
  rcases hd with ⟨rfl, rfl⟩ | ⟨hea, N, g, hnN, hN, hN2, hat, hg⟩
  · refine cr_vc [11] 60 (s_AL_add1 hl Z C hem) (fun K hK => ?_)
    conv => whnf
    refine Or.inr ⟨rfl, hold, ?_⟩
    conv => whnf
    refine ⟨fun h9 => absurd rfl h9, fun _ => ?_⟩
    conv => whnf
    refine ⟨rfl, _, h1, 5, 1, 109, _, j_AL_grow0 (f := f) hl Z h1 (j_AL_grow1_first hl Z hold ha h1), by decide, by decide, by decide, cr_le rfl, fun v9 H1 hq _ => ?_, fun kd H' hq _ => by cases hq.1⟩
    obtain ⟨hq1, hq2, ⟨N', g', g1, g2, g3, g4, g5⟩, g6, g7⟩ := hq
    cases hq1
    conv => whnf
    refine ⟨cr_le rfl, ?_⟩
    conv => whnf
    exact hK _ _ _ _ _ _ (fin H.size N' g' H1 _ _ (by decide) (by decide) hq2 g1 g2 g3 g4 g5 g6 (Or.inr rfl) (by omega) g7)
  · have hae : a ≠ ea := Ne.symm (cr_li_ne Z h1 hat)
    refine cr_vc [11] 60 (s_AL_add1 hl Z C hem) (fun K hK => ?_)
    conv => whnf
    refine Or.inl ⟨_, hat, ?_⟩
    conv => whnf
    refine ⟨fun h9 => ?_, fun h9 => ?_⟩
    · conv => whnf
      exact hK _ _ _ _ _ _ (fin ea N g H _ _ (by decide) (by decide) hea (by
        have : n ≠ N := fun e => h9 (by rw [e])
        omega) hN hN2 hat hg h1 (Or.inl rfl) hae (cr_Fr.refl H))
    · have hnN' : n = N := (nI_eq (by omega) (by omega)).mp h9
      subst hnN'
      conv => whnf
      refine ⟨rfl, _, h1, 5, 1, 109, _, j_AL_grow0 (f := f) hl Z h1 (j_AL_grow1_more hl Z ha h1 hat hN2 hn hg hel), by decide, by decide, by decide, cr_le rfl, fun v9 H1 hq _ => ?_, fun kd H' hq _ => by cases hq.1⟩
      obtain ⟨hq1, hq2, ⟨N', g', g1, g2, g3, g4, g5⟩, g6, g7⟩ := hq
      cases hq1
      conv => whnf
      refine ⟨cr_le rfl, ?_⟩
      conv => whnf
      exact hK _ _ _ _ _ _ (fin H.size N' g' H1 _ _ (by decide) (by decide) hq2 g1 g2 g3 g4 g5 g6 (Or.inr rfl) (by omega) g7)
theorem j_AL_add (hl : l.flags = flags0) (Z : cr_Z0 s0 D ca e0) (hold : cr_Old s0 H) {a ea n v : Nat} {f : Nat → Nat} (h : cr_li s0 D ca e0 H a ea n f) (hn : n ≤ 72) (hel : ∀ i, i < n → f i ≠ a ∧ ∃ ci fs, ci ∈ cs_obj ∧ va_at D kc (f i, .inr (ci, fs)) H) (hv : ∃ ci fs, ci ∈ cs_obj ∧ va_at D kc (v, .inr (ci, fs)) H) (hva : v ≠ a) :
    cr_c l s0 y_AL_add0 cw_AL_add0 7 1 109 [.ref a, .ref v] H (cr_ad s0 D ca e0 H a ea n v f (some (.int 1))) := by
  obtain ⟨ha, md, h1, hd⟩ := h
  refine cr_enter (by decide +kernel) (Nat.le_of_ble_eq_true rfl) (fun hlo p e s m args below meth c C hem hH => ?_)
  refine cr_vc [] 60 (s_AL_add0 hl Z C hem) (fun K hK => ?_)
  conv => whnf
  refine ⟨rfl, ?_⟩
  conv => whnf
  refine ⟨_, h1, ?_⟩
  conv => whnf
  refine ⟨_, h1, ha, ⟨rfl, rfl⟩, ?_⟩
  conv => whnf
  intro H1 hup
  have hfr := hup.fr
  have hold1 : cr_Old s0 H1 := hfr.old hold hlo (fun q e => by rw [e]; exact ha)
  have hli : cr_li s0 D ca e0 H1 a ea n f := by
    refine ⟨ha, _, hup.2.1, ?_⟩
    rcases hd with h | ⟨hea, N, g, hnN, hN, hN2, hat, hg⟩
    · exact Or.inl h
    · refine Or.inr ⟨hea, N, g, hnN, hN, hN2, hfr.at hat (cr_li_ne Z h1 hat), hg⟩
  conv => whnf
  refine ⟨_, hup.2.1, ?_⟩
  conv => whnf
  refine ⟨_, hup.2.1, ?_⟩
  conv => whnf
  refine ⟨rfl, _, hup.2.1, 6, 1, 109, _, j_AL_add1 hl Z hold1 hli hn (fun i hi => ?_) ?_ hva, by decide, by decide, by decide, cr_le rfl, fun v9 H2 hq _ => ?_, fun kd H' hq _ => by cases hq.1⟩
  · obtain ⟨h9, ci, fs, q1, q2⟩ := hel i hi
    exact ⟨ci, fs, q1, hfr.at q2 h9⟩
  · obtain ⟨ci, fs, q1, q2⟩ := hv
    exact ⟨ci, fs, q1, hfr.at q2 hva⟩
  obtain ⟨hq1, ea', q1, q2, q3⟩ := hq
  cases hq1
  conv => whnf
  refine ⟨rfl, by decide, by decide, rfl, ea', q1, ?_, hfr.trans q3 (fun q _ e => Or.inl e) (fun q _ e => e)⟩
  rw [← hup.1]
  exact q2
end JDK3
end
