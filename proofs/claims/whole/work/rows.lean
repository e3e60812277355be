section
def lw_okq (q : MethodName × Nat) : Prop := (q.1.cls ≠ "java/lang/invoke/MethodHandle" ∧ q.1.cls ≠ "java/lang/invoke/VarHandle") ∧ Cond.instantiable q.1.cls q.2 ∈ tables_1 ∧ Cond.privateMethod q.1 ∈ tables_1 ∧ Cond.instanceMethod q.1 ∈ tables_1
theorem lw_p0 : lw_okq (⟨"java/util/ArrayList", "add", "(Ljava/lang/Object;[Ljava/lang/Object;I)V"⟩, 3) := ⟨⟨by decide +kernel, by decide +kernel⟩, List.mem_of_getElem? (i := 44) (by decide +kernel), List.mem_of_getElem? (i := 225) (by decide +kernel), List.mem_of_getElem? (i := 226) (by decide +kernel)⟩
theorem lw_p1 : lw_okq (⟨"java/util/ArrayList", "grow", "()[Ljava/lang/Object;"⟩, 3) := ⟨⟨by decide +kernel, by decide +kernel⟩, List.mem_of_getElem? (i := 44) (by decide +kernel), List.mem_of_getElem? (i := 229) (by decide +kernel), List.mem_of_getElem? (i := 230) (by decide +kernel)⟩
theorem lw_p2 : lw_okq (⟨"java/util/ArrayList", "grow", "(I)[Ljava/lang/Object;"⟩, 3) := ⟨⟨by decide +kernel, by decide +kernel⟩, List.mem_of_getElem? (i := 44) (by decide +kernel), List.mem_of_getElem? (i := 233) (by decide +kernel), List.mem_of_getElem? (i := 234) (by decide +kernel)⟩
theorem lw_p3 : lw_okq (⟨"ScrapYard", "putOnTape", "(I)V"⟩, 10) := ⟨⟨by decide +kernel, by decide +kernel⟩, List.mem_of_getElem? (i := 36) (by decide +kernel), List.mem_of_getElem? (i := 320) (by decide +kernel), List.mem_of_getElem? (i := 321) (by decide +kernel)⟩
theorem lw_p4 : lw_okq (⟨"ScrapYard", "layersInAll", "()I"⟩, 10) := ⟨⟨by decide +kernel, by decide +kernel⟩, List.mem_of_getElem? (i := 36) (by decide +kernel), List.mem_of_getElem? (i := 408) (by decide +kernel), List.mem_of_getElem? (i := 409) (by decide +kernel)⟩
theorem lw_p5 : lw_okq (⟨"ScrapYard", "tonsInHeaps", "()I"⟩, 10) := ⟨⟨by decide +kernel, by decide +kernel⟩, List.mem_of_getElem? (i := 36) (by decide +kernel), List.mem_of_getElem? (i := 412) (by decide +kernel), List.mem_of_getElem? (i := 413) (by decide +kernel)⟩
theorem lw_p6 : lw_okq (⟨"ScrapYard", "tonsInMelts", "()I"⟩, 10) := ⟨⟨by decide +kernel, by decide +kernel⟩, List.mem_of_getElem? (i := 36) (by decide +kernel), List.mem_of_getElem? (i := 432) (by decide +kernel), List.mem_of_getElem? (i := 433) (by decide +kernel)⟩
theorem lw_p7 : lw_okq (⟨"ScrapYard", "kindOf", "(I)LScrapYard$Kind;"⟩, 10) := ⟨⟨by decide +kernel, by decide +kernel⟩, List.mem_of_getElem? (i := 36) (by decide +kernel), List.mem_of_getElem? (i := 446) (by decide +kernel), List.mem_of_getElem? (i := 447) (by decide +kernel)⟩
theorem lw_p8 : lw_okq (⟨"java/lang/Throwable", "fillInStackTrace", "(I)Ljava/lang/Throwable;"⟩, 6) := ⟨⟨by decide +kernel, by decide +kernel⟩, List.mem_of_getElem? (i := 488) (by decide +kernel), List.mem_of_getElem? (i := 486) (by decide +kernel), List.mem_of_getElem? (i := 487) (by decide +kernel)⟩
theorem lw_p9 : lw_okq (⟨"ScrapYard", "sellerOf", "(I)LScrapYard$Seller;"⟩, 10) := ⟨⟨by decide +kernel, by decide +kernel⟩, List.mem_of_getElem? (i := 36) (by decide +kernel), List.mem_of_getElem? (i := 552) (by decide +kernel), List.mem_of_getElem? (i := 553) (by decide +kernel)⟩
theorem lw_p10 : lw_okq (⟨"ScrapYard$ContractReader", "takesWord", "(Ljava/lang/String;)Z"⟩, 5) := ⟨⟨by decide +kernel, by decide +kernel⟩, List.mem_of_getElem? (i := 604) (by decide +kernel), List.mem_of_getElem? (i := 814) (by decide +kernel), List.mem_of_getElem? (i := 815) (by decide +kernel)⟩
theorem lw_p11 : lw_okq (⟨"ScrapYard$ContractReader", "nextWord", "()Ljava/lang/String;"⟩, 5) := ⟨⟨by decide +kernel, by decide +kernel⟩, List.mem_of_getElem? (i := 604) (by decide +kernel), List.mem_of_getElem? (i := 818) (by decide +kernel), List.mem_of_getElem? (i := 819) (by decide +kernel)⟩
theorem lw_p12 : lw_okq (⟨"ScrapYard$ContractReader", "skipBlanks", "()V"⟩, 5) := ⟨⟨by decide +kernel, by decide +kernel⟩, List.mem_of_getElem? (i := 604) (by decide +kernel), List.mem_of_getElem? (i := 822) (by decide +kernel), List.mem_of_getElem? (i := 823) (by decide +kernel)⟩
theorem lw_p13 : lw_okq (⟨"ScrapYard$ContractReader", "readsGrade", "()Z"⟩, 5) := ⟨⟨by decide +kernel, by decide +kernel⟩, List.mem_of_getElem? (i := 604) (by decide +kernel), List.mem_of_getElem? (i := 850) (by decide +kernel), List.mem_of_getElem? (i := 851) (by decide +kernel)⟩
theorem lw_p14 : lw_okq (⟨"ScrapYard$ContractReader", "readsTest", "(LScrapYard$Grade;)Z"⟩, 5) := ⟨⟨by decide +kernel, by decide +kernel⟩, List.mem_of_getElem? (i := 604) (by decide +kernel), List.mem_of_getElem? (i := 872) (by decide +kernel), List.mem_of_getElem? (i := 873) (by decide +kernel)⟩
theorem lw_p15 : lw_okq (⟨"ScrapYard$ContractReader", "takenMetal", "()I"⟩, 5) := ⟨⟨by decide +kernel, by decide +kernel⟩, List.mem_of_getElem? (i := 604) (by decide +kernel), List.mem_of_getElem? (i := 876) (by decide +kernel), List.mem_of_getElem? (i := 877) (by decide +kernel)⟩
def lw_privs_1 : List (MethodName × Nat) := [(⟨"java/util/ArrayList", "add", "(Ljava/lang/Object;[Ljava/lang/Object;I)V"⟩, 3), (⟨"java/util/ArrayList", "grow", "()[Ljava/lang/Object;"⟩, 3), (⟨"java/util/ArrayList", "grow", "(I)[Ljava/lang/Object;"⟩, 3), (⟨"ScrapYard", "putOnTape", "(I)V"⟩, 10), (⟨"ScrapYard", "layersInAll", "()I"⟩, 10), (⟨"ScrapYard", "tonsInHeaps", "()I"⟩, 10), (⟨"ScrapYard", "tonsInMelts", "()I"⟩, 10), (⟨"ScrapYard", "kindOf", "(I)LScrapYard$Kind;"⟩, 10), (⟨"java/lang/Throwable", "fillInStackTrace", "(I)Ljava/lang/Throwable;"⟩, 6), (⟨"ScrapYard", "sellerOf", "(I)LScrapYard$Seller;"⟩, 10), (⟨"ScrapYard$ContractReader", "takesWord", "(Ljava/lang/String;)Z"⟩, 5), (⟨"ScrapYard$ContractReader", "nextWord", "()Ljava/lang/String;"⟩, 5), (⟨"ScrapYard$ContractReader", "skipBlanks", "()V"⟩, 5), (⟨"ScrapYard$ContractReader", "readsGrade", "()Z"⟩, 5), (⟨"ScrapYard$ContractReader", "readsTest", "(LScrapYard$Grade;)Z"⟩, 5), (⟨"ScrapYard$ContractReader", "takenMetal", "()I"⟩, 5)]
theorem lw_r1 : ∀ q ∈ lw_privs_1, lw_okq q := List.forall_mem_cons.mpr ⟨lw_p0, List.forall_mem_cons.mpr ⟨lw_p1, List.forall_mem_cons.mpr ⟨lw_p2, List.forall_mem_cons.mpr ⟨lw_p3, List.forall_mem_cons.mpr ⟨lw_p4, List.forall_mem_cons.mpr ⟨lw_p5, List.forall_mem_cons.mpr ⟨lw_p6, List.forall_mem_cons.mpr ⟨lw_p7, List.forall_mem_cons.mpr ⟨lw_p8, List.forall_mem_cons.mpr ⟨lw_p9, List.forall_mem_cons.mpr ⟨lw_p10, List.forall_mem_cons.mpr ⟨lw_p11, List.forall_mem_cons.mpr ⟨lw_p12, List.forall_mem_cons.mpr ⟨lw_p13, List.forall_mem_cons.mpr ⟨lw_p14, List.forall_mem_cons.mpr ⟨lw_p15, fun _ h => absurd h List.not_mem_nil⟩⟩⟩⟩⟩⟩⟩⟩⟩⟩⟩⟩⟩⟩⟩⟩
theorem lw_p16 : lw_okq (⟨"ScrapYard$ContractReader", "takesSign", "(C)Z"⟩, 5) := ⟨⟨by decide +kernel, by decide +kernel⟩, List.mem_of_getElem? (i := 604) (by decide +kernel), List.mem_of_getElem? (i := 888) (by decide +kernel), List.mem_of_getElem? (i := 889) (by decide +kernel)⟩
theorem lw_p17 : lw_okq (⟨"ScrapYard$ContractReader", "takesNumber", "()Z"⟩, 5) := ⟨⟨by decide +kernel, by decide +kernel⟩, List.mem_of_getElem? (i := 604) (by decide +kernel), List.mem_of_getElem? (i := 892) (by decide +kernel), List.mem_of_getElem? (i := 893) (by decide +kernel)⟩
theorem lw_p18 : lw_okq (⟨"ScrapYard$ContractReader", "readsPay", "()Z"⟩, 5) := ⟨⟨by decide +kernel, by decide +kernel⟩, List.mem_of_getElem? (i := 604) (by decide +kernel), List.mem_of_getElem? (i := 903) (by decide +kernel), List.mem_of_getElem? (i := 904) (by decide +kernel)⟩
theorem lw_p19 : lw_okq (⟨"ScrapYard", "inForce", "(LScrapYard$Seller;I)LScrapYard$Contract;"⟩, 10) := ⟨⟨by decide +kernel, by decide +kernel⟩, List.mem_of_getElem? (i := 36) (by decide +kernel), List.mem_of_getElem? (i := 917) (by decide +kernel), List.mem_of_getElem? (i := 918) (by decide +kernel)⟩
theorem lw_p20 : lw_okq (⟨"ScrapYard", "heapOf", "(I)LScrapYard$Heap;"⟩, 10) := ⟨⟨by decide +kernel, by decide +kernel⟩, List.mem_of_getElem? (i := 36) (by decide +kernel), List.mem_of_getElem? (i := 940) (by decide +kernel), List.mem_of_getElem? (i := 941) (by decide +kernel)⟩
theorem lw_p21 : lw_okq (⟨"ScrapYard", "loadOf", "(I)LScrapYard$Load;"⟩, 10) := ⟨⟨by decide +kernel, by decide +kernel⟩, List.mem_of_getElem? (i := 36) (by decide +kernel), List.mem_of_getElem? (i := 1069) (by decide +kernel), List.mem_of_getElem? (i := 1070) (by decide +kernel)⟩
theorem lw_p22 : lw_okq (⟨"java/util/ArrayList", "fastRemove", "([Ljava/lang/Object;I)V"⟩, 3) := ⟨⟨by decide +kernel, by decide +kernel⟩, List.mem_of_getElem? (i := 44) (by decide +kernel), List.mem_of_getElem? (i := 1168) (by decide +kernel), List.mem_of_getElem? (i := 1169) (by decide +kernel)⟩
theorem lw_p23 : lw_okq (⟨"ScrapYard$ChargeSearch", "weigh", "(ILScrapYard$Heap;I)V"⟩, 7) := ⟨⟨by decide +kernel, by decide +kernel⟩, List.mem_of_getElem? (i := 86) (by decide +kernel), List.mem_of_getElem? (i := 1230) (by decide +kernel), List.mem_of_getElem? (i := 1231) (by decide +kernel)⟩
theorem lw_p24 : lw_okq (⟨"ScrapYard$ChargeSearch", "addTon", "(ILScrapYard$Layer;)V"⟩, 7) := ⟨⟨by decide +kernel, by decide +kernel⟩, List.mem_of_getElem? (i := 86) (by decide +kernel), List.mem_of_getElem? (i := 1239) (by decide +kernel), List.mem_of_getElem? (i := 1240) (by decide +kernel)⟩
theorem lw_p25 : lw_okq (⟨"ScrapYard$ChargeSearch", "boundSum", "(II)V"⟩, 7) := ⟨⟨by decide +kernel, by decide +kernel⟩, List.mem_of_getElem? (i := 86) (by decide +kernel), List.mem_of_getElem? (i := 1243) (by decide +kernel), List.mem_of_getElem? (i := 1244) (by decide +kernel)⟩
theorem lw_p26 : lw_okq (⟨"ScrapYard$ChargeSearch", "tryFrom", "(II)V"⟩, 7) := ⟨⟨by decide +kernel, by decide +kernel⟩, List.mem_of_getElem? (i := 86) (by decide +kernel), List.mem_of_getElem? (i := 1249) (by decide +kernel), List.mem_of_getElem? (i := 1250) (by decide +kernel)⟩
theorem lw_p27 : lw_okq (⟨"ScrapYard$ChargeSearch", "hasHope", "(II)Z"⟩, 7) := ⟨⟨by decide +kernel, by decide +kernel⟩, List.mem_of_getElem? (i := 86) (by decide +kernel), List.mem_of_getElem? (i := 1253) (by decide +kernel), List.mem_of_getElem? (i := 1254) (by decide +kernel)⟩
theorem lw_p28 : lw_okq (⟨"ScrapYard$ChargeSearch", "keep", "()V"⟩, 7) := ⟨⟨by decide +kernel, by decide +kernel⟩, List.mem_of_getElem? (i := 86) (by decide +kernel), List.mem_of_getElem? (i := 1257) (by decide +kernel), List.mem_of_getElem? (i := 1258) (by decide +kernel)⟩
theorem lw_p29 : lw_okq (⟨"ScrapYard$ChargeSearch", "addGiven", "(II)V"⟩, 7) := ⟨⟨by decide +kernel, by decide +kernel⟩, List.mem_of_getElem? (i := 86) (by decide +kernel), List.mem_of_getElem? (i := 1262) (by decide +kernel), List.mem_of_getElem? (i := 1263) (by decide +kernel)⟩
theorem lw_p30 : lw_okq (⟨"ScrapYard", "meltOf", "(I)LScrapYard$Melt;"⟩, 10) := ⟨⟨by decide +kernel, by decide +kernel⟩, List.mem_of_getElem? (i := 36) (by decide +kernel), List.mem_of_getElem? (i := 1303) (by decide +kernel), List.mem_of_getElem? (i := 1304) (by decide +kernel)⟩
theorem lw_p31 : lw_okq (⟨"ScrapYard$Melt", "atLeast", "(LScrapYard$Layer;III)I"⟩, 2) := ⟨⟨by decide +kernel, by decide +kernel⟩, List.mem_of_getElem? (i := 1279) (by decide +kernel), List.mem_of_getElem? (i := 1331) (by decide +kernel), List.mem_of_getElem? (i := 1332) (by decide +kernel)⟩
def lw_privs_2 : List (MethodName × Nat) := [(⟨"ScrapYard$ContractReader", "takesSign", "(C)Z"⟩, 5), (⟨"ScrapYard$ContractReader", "takesNumber", "()Z"⟩, 5), (⟨"ScrapYard$ContractReader", "readsPay", "()Z"⟩, 5), (⟨"ScrapYard", "inForce", "(LScrapYard$Seller;I)LScrapYard$Contract;"⟩, 10), (⟨"ScrapYard", "heapOf", "(I)LScrapYard$Heap;"⟩, 10), (⟨"ScrapYard", "loadOf", "(I)LScrapYard$Load;"⟩, 10), (⟨"java/util/ArrayList", "fastRemove", "([Ljava/lang/Object;I)V"⟩, 3), (⟨"ScrapYard$ChargeSearch", "weigh", "(ILScrapYard$Heap;I)V"⟩, 7), (⟨"ScrapYard$ChargeSearch", "addTon", "(ILScrapYard$Layer;)V"⟩, 7), (⟨"ScrapYard$ChargeSearch", "boundSum", "(II)V"⟩, 7), (⟨"ScrapYard$ChargeSearch", "tryFrom", "(II)V"⟩, 7), (⟨"ScrapYard$ChargeSearch", "hasHope", "(II)Z"⟩, 7), (⟨"ScrapYard$ChargeSearch", "keep", "()V"⟩, 7), (⟨"ScrapYard$ChargeSearch", "addGiven", "(II)V"⟩, 7), (⟨"ScrapYard", "meltOf", "(I)LScrapYard$Melt;"⟩, 10), (⟨"ScrapYard$Melt", "atLeast", "(LScrapYard$Layer;III)I"⟩, 2)]
theorem lw_r2 : ∀ q ∈ lw_privs_2, lw_okq q := List.forall_mem_cons.mpr ⟨lw_p16, List.forall_mem_cons.mpr ⟨lw_p17, List.forall_mem_cons.mpr ⟨lw_p18, List.forall_mem_cons.mpr ⟨lw_p19, List.forall_mem_cons.mpr ⟨lw_p20, List.forall_mem_cons.mpr ⟨lw_p21, List.forall_mem_cons.mpr ⟨lw_p22, List.forall_mem_cons.mpr ⟨lw_p23, List.forall_mem_cons.mpr ⟨lw_p24, List.forall_mem_cons.mpr ⟨lw_p25, List.forall_mem_cons.mpr ⟨lw_p26, List.forall_mem_cons.mpr ⟨lw_p27, List.forall_mem_cons.mpr ⟨lw_p28, List.forall_mem_cons.mpr ⟨lw_p29, List.forall_mem_cons.mpr ⟨lw_p30, List.forall_mem_cons.mpr ⟨lw_p31, fun _ h => absurd h List.not_mem_nil⟩⟩⟩⟩⟩⟩⟩⟩⟩⟩⟩⟩⟩⟩⟩⟩
theorem lw_p32 : lw_okq (⟨"ScrapYard$Melt", "atMost", "(LScrapYard$Layer;III)I"⟩, 2) := ⟨⟨by decide +kernel, by decide +kernel⟩, List.mem_of_getElem? (i := 1279) (by decide +kernel), List.mem_of_getElem? (i := 1337) (by decide +kernel), List.mem_of_getElem? (i := 1338) (by decide +kernel)⟩
theorem lw_p33 : lw_okq (⟨"ScrapYardModel", "may", "(ZI)Z"⟩, 60) := ⟨⟨by decide +kernel, by decide +kernel⟩, List.mem_of_getElem? (i := 1375) (by decide +kernel), List.mem_of_getElem? (i := 1572) (by decide +kernel), List.mem_of_getElem? (i := 1573) (by decide +kernel)⟩
theorem lw_p34 : lw_okq (⟨"ScrapYardModel", "isSeller", "(I)Z"⟩, 60) := ⟨⟨by decide +kernel, by decide +kernel⟩, List.mem_of_getElem? (i := 1375) (by decide +kernel), List.mem_of_getElem? (i := 1590) (by decide +kernel), List.mem_of_getElem? (i := 1591) (by decide +kernel)⟩
theorem lw_p35 : lw_okq (⟨"ScrapYardModel", "lowOf", "(III)I"⟩, 60) := ⟨⟨by decide +kernel, by decide +kernel⟩, List.mem_of_getElem? (i := 1375) (by decide +kernel), List.mem_of_getElem? (i := 1594) (by decide +kernel), List.mem_of_getElem? (i := 1595) (by decide +kernel)⟩
theorem lw_p36 : lw_okq (⟨"ScrapYardModel", "highOf", "(III)I"⟩, 60) := ⟨⟨by decide +kernel, by decide +kernel⟩, List.mem_of_getElem? (i := 1375) (by decide +kernel), List.mem_of_getElem? (i := 1601) (by decide +kernel), List.mem_of_getElem? (i := 1602) (by decide +kernel)⟩
theorem lw_p37 : lw_okq (⟨"ScrapYardModel", "fine", "()Z"⟩, 60) := ⟨⟨by decide +kernel, by decide +kernel⟩, List.mem_of_getElem? (i := 1375) (by decide +kernel), List.mem_of_getElem? (i := 1613) (by decide +kernel), List.mem_of_getElem? (i := 1614) (by decide +kernel)⟩
theorem lw_p38 : lw_okq (⟨"ScrapYardModel", "word", "()J"⟩, 60) := ⟨⟨by decide +kernel, by decide +kernel⟩, List.mem_of_getElem? (i := 1375) (by decide +kernel), List.mem_of_getElem? (i := 1617) (by decide +kernel), List.mem_of_getElem? (i := 1618) (by decide +kernel)⟩
theorem lw_p39 : lw_okq (⟨"ScrapYardModel", "here", "()I"⟩, 60) := ⟨⟨by decide +kernel, by decide +kernel⟩, List.mem_of_getElem? (i := 1375) (by decide +kernel), List.mem_of_getElem? (i := 1621) (by decide +kernel), List.mem_of_getElem? (i := 1622) (by decide +kernel)⟩
theorem lw_p40 : lw_okq (⟨"ScrapYardModel", "wrong", "(I)V"⟩, 60) := ⟨⟨by decide +kernel, by decide +kernel⟩, List.mem_of_getElem? (i := 1375) (by decide +kernel), List.mem_of_getElem? (i := 1629) (by decide +kernel), List.mem_of_getElem? (i := 1630) (by decide +kernel)⟩
theorem lw_p41 : lw_okq (⟨"ScrapYardModel", "pass", "()V"⟩, 60) := ⟨⟨by decide +kernel, by decide +kernel⟩, List.mem_of_getElem? (i := 1375) (by decide +kernel), List.mem_of_getElem? (i := 1633) (by decide +kernel), List.mem_of_getElem? (i := 1634) (by decide +kernel)⟩
theorem lw_p42 : lw_okq (⟨"ScrapYardModel", "test", "()V"⟩, 60) := ⟨⟨by decide +kernel, by decide +kernel⟩, List.mem_of_getElem? (i := 1375) (by decide +kernel), List.mem_of_getElem? (i := 1637) (by decide +kernel), List.mem_of_getElem? (i := 1638) (by decide +kernel)⟩
theorem lw_p43 : lw_okq (⟨"ScrapYardModel", "digits", "()I"⟩, 60) := ⟨⟨by decide +kernel, by decide +kernel⟩, List.mem_of_getElem? (i := 1375) (by decide +kernel), List.mem_of_getElem? (i := 1649) (by decide +kernel), List.mem_of_getElem? (i := 1650) (by decide +kernel)⟩
theorem lw_p44 : lw_okq (⟨"ScrapYardModel", "pay", "()I"⟩, 60) := ⟨⟨by decide +kernel, by decide +kernel⟩, List.mem_of_getElem? (i := 1375) (by decide +kernel), List.mem_of_getElem? (i := 1656) (by decide +kernel), List.mem_of_getElem? (i := 1657) (by decide +kernel)⟩
theorem lw_p45 : lw_okq (⟨"ScrapYardModel", "needWord", "(J)V"⟩, 60) := ⟨⟨by decide +kernel, by decide +kernel⟩, List.mem_of_getElem? (i := 1375) (by decide +kernel), List.mem_of_getElem? (i := 1661) (by decide +kernel), List.mem_of_getElem? (i := 1662) (by decide +kernel)⟩
theorem lw_p46 : lw_okq (⟨"ScrapYardModel", "need", "(I)V"⟩, 60) := ⟨⟨by decide +kernel, by decide +kernel⟩, List.mem_of_getElem? (i := 1375) (by decide +kernel), List.mem_of_getElem? (i := 1665) (by decide +kernel), List.mem_of_getElem? (i := 1666) (by decide +kernel)⟩
theorem lw_p47 : lw_okq (⟨"ScrapYardModel", "inForce", "(II)I"⟩, 60) := ⟨⟨by decide +kernel, by decide +kernel⟩, List.mem_of_getElem? (i := 1375) (by decide +kernel), List.mem_of_getElem? (i := 1674) (by decide +kernel), List.mem_of_getElem? (i := 1675) (by decide +kernel)⟩
def lw_privs_3 : List (MethodName × Nat) := [(⟨"ScrapYard$Melt", "atMost", "(LScrapYard$Layer;III)I"⟩, 2), (⟨"ScrapYardModel", "may", "(ZI)Z"⟩, 60), (⟨"ScrapYardModel", "isSeller", "(I)Z"⟩, 60), (⟨"ScrapYardModel", "lowOf", "(III)I"⟩, 60), (⟨"ScrapYardModel", "highOf", "(III)I"⟩, 60), (⟨"ScrapYardModel", "fine", "()Z"⟩, 60), (⟨"ScrapYardModel", "word", "()J"⟩, 60), (⟨"ScrapYardModel", "here", "()I"⟩, 60), (⟨"ScrapYardModel", "wrong", "(I)V"⟩, 60), (⟨"ScrapYardModel", "pass", "()V"⟩, 60), (⟨"ScrapYardModel", "test", "()V"⟩, 60), (⟨"ScrapYardModel", "digits", "()I"⟩, 60), (⟨"ScrapYardModel", "pay", "()I"⟩, 60), (⟨"ScrapYardModel", "needWord", "(J)V"⟩, 60), (⟨"ScrapYardModel", "need", "(I)V"⟩, 60), (⟨"ScrapYardModel", "inForce", "(II)I"⟩, 60)]
theorem lw_r3 : ∀ q ∈ lw_privs_3, lw_okq q := List.forall_mem_cons.mpr ⟨lw_p32, List.forall_mem_cons.mpr ⟨lw_p33, List.forall_mem_cons.mpr ⟨lw_p34, List.forall_mem_cons.mpr ⟨lw_p35, List.forall_mem_cons.mpr ⟨lw_p36, List.forall_mem_cons.mpr ⟨lw_p37, List.forall_mem_cons.mpr ⟨lw_p38, List.forall_mem_cons.mpr ⟨lw_p39, List.forall_mem_cons.mpr ⟨lw_p40, List.forall_mem_cons.mpr ⟨lw_p41, List.forall_mem_cons.mpr ⟨lw_p42, List.forall_mem_cons.mpr ⟨lw_p43, List.forall_mem_cons.mpr ⟨lw_p44, List.forall_mem_cons.mpr ⟨lw_p45, List.forall_mem_cons.mpr ⟨lw_p46, List.forall_mem_cons.mpr ⟨lw_p47, fun _ h => absurd h List.not_mem_nil⟩⟩⟩⟩⟩⟩⟩⟩⟩⟩⟩⟩⟩⟩⟩⟩
theorem lw_p48 : lw_okq (⟨"ScrapYardModel", "layersInAll", "()I"⟩, 60) := ⟨⟨by decide +kernel, by decide +kernel⟩, List.mem_of_getElem? (i := 1375) (by decide +kernel), List.mem_of_getElem? (i := 1682) (by decide +kernel), List.mem_of_getElem? (i := 1683) (by decide +kernel)⟩
theorem lw_p49 : lw_okq (⟨"ScrapYardModel", "findGrade", "(II)V"⟩, 60) := ⟨⟨by decide +kernel, by decide +kernel⟩, List.mem_of_getElem? (i := 1375) (by decide +kernel), List.mem_of_getElem? (i := 1686) (by decide +kernel), List.mem_of_getElem? (i := 1687) (by decide +kernel)⟩
theorem lw_p50 : lw_okq (⟨"ScrapYardModel", "isSure", "(III)Z"⟩, 60) := ⟨⟨by decide +kernel, by decide +kernel⟩, List.mem_of_getElem? (i := 1375) (by decide +kernel), List.mem_of_getElem? (i := 1690) (by decide +kernel), List.mem_of_getElem? (i := 1691) (by decide +kernel)⟩
theorem lw_p51 : lw_okq (⟨"ScrapYardModel", "put", "(IIIII)V"⟩, 60) := ⟨⟨by decide +kernel, by decide +kernel⟩, List.mem_of_getElem? (i := 1375) (by decide +kernel), List.mem_of_getElem? (i := 1694) (by decide +kernel), List.mem_of_getElem? (i := 1695) (by decide +kernel)⟩
theorem lw_p52 : lw_okq (⟨"ScrapYardModel", "isLoad", "(I)Z"⟩, 60) := ⟨⟨by decide +kernel, by decide +kernel⟩, List.mem_of_getElem? (i := 1375) (by decide +kernel), List.mem_of_getElem? (i := 1702) (by decide +kernel), List.mem_of_getElem? (i := 1703) (by decide +kernel)⟩
theorem lw_p53 : lw_okq (⟨"ScrapYardModel", "isHeap", "(I)Z"⟩, 60) := ⟨⟨by decide +kernel, by decide +kernel⟩, List.mem_of_getElem? (i := 1375) (by decide +kernel), List.mem_of_getElem? (i := 1714) (by decide +kernel), List.mem_of_getElem? (i := 1715) (by decide +kernel)⟩
theorem lw_p54 : lw_okq (⟨"ScrapYardModel", "tonsOf", "(I)I"⟩, 60) := ⟨⟨by decide +kernel, by decide +kernel⟩, List.mem_of_getElem? (i := 1375) (by decide +kernel), List.mem_of_getElem? (i := 1718) (by decide +kernel), List.mem_of_getElem? (i := 1719) (by decide +kernel)⟩
theorem lw_p55 : lw_okq (⟨"ScrapYardModel", "lowOfLayer", "(II)I"⟩, 60) := ⟨⟨by decide +kernel, by decide +kernel⟩, List.mem_of_getElem? (i := 1375) (by decide +kernel), List.mem_of_getElem? (i := 1730) (by decide +kernel), List.mem_of_getElem? (i := 1731) (by decide +kernel)⟩
theorem lw_p56 : lw_okq (⟨"ScrapYardModel", "highOfLayer", "(II)I"⟩, 60) := ⟨⟨by decide +kernel, by decide +kernel⟩, List.mem_of_getElem? (i := 1375) (by decide +kernel), List.mem_of_getElem? (i := 1734) (by decide +kernel), List.mem_of_getElem? (i := 1735) (by decide +kernel)⟩
theorem lw_p57 : lw_okq (⟨"ScrapYardModel", "findBest", "(I)J"⟩, 60) := ⟨⟨by decide +kernel, by decide +kernel⟩, List.mem_of_getElem? (i := 1375) (by decide +kernel), List.mem_of_getElem? (i := 1754) (by decide +kernel), List.mem_of_getElem? (i := 1755) (by decide +kernel)⟩
theorem lw_p58 : lw_okq (⟨"ScrapYardModel", "findSums", "(I)V"⟩, 60) := ⟨⟨by decide +kernel, by decide +kernel⟩, List.mem_of_getElem? (i := 1375) (by decide +kernel), List.mem_of_getElem? (i := 1758) (by decide +kernel), List.mem_of_getElem? (i := 1759) (by decide +kernel)⟩
theorem lw_p59 : lw_okq (⟨"ScrapYardModel", "total", "(I)J"⟩, 60) := ⟨⟨by decide +kernel, by decide +kernel⟩, List.mem_of_getElem? (i := 1375) (by decide +kernel), List.mem_of_getElem? (i := 1766) (by decide +kernel), List.mem_of_getElem? (i := 1767) (by decide +kernel)⟩
theorem lw_p60 : lw_okq (⟨"ScrapYardModel", "isGood", "(I)Z"⟩, 60) := ⟨⟨by decide +kernel, by decide +kernel⟩, List.mem_of_getElem? (i := 1375) (by decide +kernel), List.mem_of_getElem? (i := 1770) (by decide +kernel), List.mem_of_getElem? (i := 1771) (by decide +kernel)⟩
theorem lw_p61 : lw_okq (⟨"ScrapYardModel", "isMelt", "(I)Z"⟩, 60) := ⟨⟨by decide +kernel, by decide +kernel⟩, List.mem_of_getElem? (i := 1375) (by decide +kernel), List.mem_of_getElem? (i := 1786) (by decide +kernel), List.mem_of_getElem? (i := 1787) (by decide +kernel)⟩
theorem lw_p62 : lw_okq (⟨"ScrapYardModel", "putRight", "(IIIII)V"⟩, 60) := ⟨⟨by decide +kernel, by decide +kernel⟩, List.mem_of_getElem? (i := 1375) (by decide +kernel), List.mem_of_getElem? (i := 1801) (by decide +kernel), List.mem_of_getElem? (i := 1802) (by decide +kernel)⟩
def lw_privs_4 : List (MethodName × Nat) := [(⟨"ScrapYardModel", "layersInAll", "()I"⟩, 60), (⟨"ScrapYardModel", "findGrade", "(II)V"⟩, 60), (⟨"ScrapYardModel", "isSure", "(III)Z"⟩, 60), (⟨"ScrapYardModel", "put", "(IIIII)V"⟩, 60), (⟨"ScrapYardModel", "isLoad", "(I)Z"⟩, 60), (⟨"ScrapYardModel", "isHeap", "(I)Z"⟩, 60), (⟨"ScrapYardModel", "tonsOf", "(I)I"⟩, 60), (⟨"ScrapYardModel", "lowOfLayer", "(II)I"⟩, 60), (⟨"ScrapYardModel", "highOfLayer", "(II)I"⟩, 60), (⟨"ScrapYardModel", "findBest", "(I)J"⟩, 60), (⟨"ScrapYardModel", "findSums", "(I)V"⟩, 60), (⟨"ScrapYardModel", "total", "(I)J"⟩, 60), (⟨"ScrapYardModel", "isGood", "(I)Z"⟩, 60), (⟨"ScrapYardModel", "isMelt", "(I)Z"⟩, 60), (⟨"ScrapYardModel", "putRight", "(IIIII)V"⟩, 60)]
theorem lw_r4 : ∀ q ∈ lw_privs_4, lw_okq q := List.forall_mem_cons.mpr ⟨lw_p48, List.forall_mem_cons.mpr ⟨lw_p49, List.forall_mem_cons.mpr ⟨lw_p50, List.forall_mem_cons.mpr ⟨lw_p51, List.forall_mem_cons.mpr ⟨lw_p52, List.forall_mem_cons.mpr ⟨lw_p53, List.forall_mem_cons.mpr ⟨lw_p54, List.forall_mem_cons.mpr ⟨lw_p55, List.forall_mem_cons.mpr ⟨lw_p56, List.forall_mem_cons.mpr ⟨lw_p57, List.forall_mem_cons.mpr ⟨lw_p58, List.forall_mem_cons.mpr ⟨lw_p59, List.forall_mem_cons.mpr ⟨lw_p60, List.forall_mem_cons.mpr ⟨lw_p61, List.forall_mem_cons.mpr ⟨lw_p62, fun _ h => absurd h List.not_mem_nil⟩⟩⟩⟩⟩⟩⟩⟩⟩⟩⟩⟩⟩⟩⟩
def lw_privs : List (MethodName × Nat) := lw_privs_1 ++ (lw_privs_2 ++ (lw_privs_3 ++ (lw_privs_4)))
def lw_tbl : List Cond := k2_sels lw_privs ++ tables_1
theorem lw_privs_ok : ∀ q ∈ lw_privs, lw_okq q := by
  show ∀ q ∈ lw_privs_1 ++ (lw_privs_2 ++ (lw_privs_3 ++ (lw_privs_4))), lw_okq q
  exact List.forall_mem_append.mpr ⟨lw_r1, List.forall_mem_append.mpr ⟨lw_r2, List.forall_mem_append.mpr ⟨lw_r3, lw_r4⟩⟩⟩
end
section
theorem goodIn_r {big : List Cond} (ws : List Cond) (ps : List Nat) (hp : ws = ps.filterMap (fun i => big[i]?)) (h : ws.all goodWord = true) : GoodIn big ws := by
  intro w hw
  have h1 := List.all_eq_true.mp h w hw
  rw [hp] at hw
  obtain ⟨i, -, hi⟩ := List.mem_filterMap.mp hw
  have hm : w ∈ big := by first | exact List.mem_of_getElem? hi | exact List.getElem?_mem hi
  exact ⟨hm, good_of_word h1⟩
theorem goodIn_app {big a b : List Cond} (ha : GoodIn big a) (hb : GoodIn big b) : GoodIn big (a ++ b) := fun w h => (List.mem_append.mp h).elim (ha w) (hb w)
theorem goodIn_ca {big a b : List Cond} {c : Cond} (ha : GoodIn big (c :: a)) (hb : GoodIn big b) : GoodIn big (c :: (a ++ b)) := fun w h => (List.mem_cons.mp h).elim (fun e => ha w (List.mem_cons.mpr (Or.inl e))) (fun h => (List.mem_append.mp h).elim (fun h => ha w (List.mem_cons.mpr (Or.inr h))) (hb w))
theorem goodIn_sub {big ws : List Cond} (hm : ∀ w ∈ ws, w ∈ big) (h : ws.all goodWord = true) : GoodIn big ws := fun w hw => ⟨hm w hw, good_of_word (List.all_eq_true.mp h w hw)⟩
def vr_up {α : Type} (f : Nat → α) (l : List Nat) (v : α) : Nat → α := fun a => if a ∈ l then v else f a
theorem vr_up_in {α : Type} {f : Nat → α} {l : List Nat} {v : α} {a : Nat} (h : a ∈ l) : vr_up f l v a = v := if_pos h
theorem vr_up_ne {α : Type} {f : Nat → α} {l : List Nat} {v : α} {a : Nat} (h : a ∉ l) : vr_up f l v a = f a := if_neg h
theorem vr_rows {L l : List Nat} {f : Nat → va_E} {e : va_E} (h : ∀ a, a ∈ l → a ∉ L) : va_pl L f ++ l.map (fun a => (a, e)) = va_pl (L ++ l) (vr_up f l e) := by
  unfold va_pl
  rw [List.map_append]
  congr 1
  · apply List.map_congr_left
    intro a ha
    rw [vr_up_ne (fun q => h a q ha)]
  · apply List.map_congr_left
    intro a ha
    rw [vr_up_in ha]
theorem vr_lay {X rows : va_W} {x : Nat × va_E} {pl : va_W} {D : va_G} {cl : List vw_C} {H : Heap} (hP : va_P D cl (((X ++ pl) ++ [x]) ++ rows) H) : va_P D cl ((X ++ [x]) ++ (pl ++ rows)) H := by
  rw [List.append_assoc (X ++ pl)] at hP
  have h := va_P.swap hP
  rw [← List.append_assoc X] at h
  have h2 := va_P.swap h
  rw [List.append_assoc (X ++ [x])] at h2
  exact h2
theorem vr_layD {X rows : va_W} {x : Nat × va_E} {pl : va_W} {A : Nat → Prop} (hD : va_D A (((X ++ pl) ++ [x]) ++ rows)) : va_D A ((X ++ [x]) ++ (pl ++ rows)) := by
  rw [List.append_assoc (X ++ pl)] at hD
  have h := va_D.swap hD
  rw [← List.append_assoc X] at h
  have h2 := va_D.swap h
  rw [List.append_assoc (X ++ [x])] at h2
  exact h2
theorem vr_outer (c : ClassId) (N h0 : Nat) : ∀ i : Nat, Jvm.Free.Multi.outerC c N h0 i = arrV c N (fun j => va_rf (if j < i then some (h0 + 1 + j) else none))
  | 0 => by
    show ({ cls := c, slots := Array.replicate N .null, vm := .none } : Cell) = _
    rw [arrV_new]
    refine congrArg (arrV c N) (funext fun j => ?_)
    simp [va_rf]
  | i + 1 => by
    show (Jvm.Free.Multi.outerC c N h0 i).setSlot i (.ref (h0 + 1 + i)) = _
    rw [vr_outer c N h0 i, arrV_store]
    refine congrArg (arrV c N) (funext fun j => ?_)
    by_cases e : j = i
    · subst e
      simp [updV, va_rf]
    · by_cases h : j < i
      · simp [updV, e, h, Nat.lt_succ_of_lt h]
      · simp [updV, e, h, show ¬ j < i + 1 by omega]
section VXA
def vx_T (XC : String → State → State → Prop) (st : State) (q : Addr) (t : State) (mc ms : Nat) (free : Addr → Prop) : Prop :=
  ∃ (E : String) (ce : Cell) (L : List Loc), XC E st t ∧ t.heap[q]? = some ce ∧ ce.vm = .none ∧ st.vm.findClass E = some ce.cls ∧ st.WarmedH t.vm ∧ st.sameButNew ({ t with vm := st.vm } : State) L mc ms ∧ ∀ z ∈ L, free z.base
def vx_Q (Qc : Array Value → State → Outcome → State → Prop) (XC : String → State → State → Prop) (mc ms : Nat) (free : Addr → Prop) : Array Value → State → Outcome → State → Prop := fun a st o t =>
  (Qc a st o t ∧ ∃ L, FrameEnd st o t L mc ms ∧ ∀ q ∈ L, free q.base) ∨ ∃ q, o = .threw q ∧ vx_T XC st q t mc ms free
def vx_Met (l : Launch) (y : MethodName) (ws : List Cond) (rm : Room) (Pc : Array Value → State → Prop) (Qc : Array Value → State → Outcome → State → Prop) (XC : String → State → State → Prop) (mc ms : Nat) (free : Addr → Prop) : Prop :=
  MetFree l y (headSpec ws rm) Pc (fun _ _ _ _ _ => True) (vx_Q Qc XC mc ms free)
def vx_Post (XC : String → State → State → Prop) (mc ms : Nat) (free : Addr → Prop) : Pt → Array Value → Addr → Pt → Prop := fun A a q B =>
  ∃ (g : JFrame) (mk : MethodId) (t : State) (L : List Loc) (E : String) (ce : Cell), B.U.heap = t.heap ∧ B.U.vm = t.vm ∧ XC E (A.U.calling g mk a) t ∧ t.heap[q]? = some ce ∧ ce.vm = .none ∧ A.U.vm.findClass E = some ce.cls ∧ B.locs = A.locs ++ L ∧ (∀ z ∈ L, free z.base) ∧ B.cells = A.cells + mc ∧ B.slots = A.slots + ms
def vx_Back (l : Launch) (R : Room) (p : Program) (e : Env) (below : List Frame) (s : State) (sargs : Array Value) (y : MethodName) (len W9 : Nat)
    (Pre : Pt → Array Value → Prop) (Post : Pt → Array Value → Option Value → Pt → Prop) (PostX : Pt → Array Value → Addr → Pt → Prop) : Prop :=
  ∀ (m : MethodId) (meth : Method) (c : Code) (A : Pt) (g : JFrame) (ig : Instr) (mk : MethodId) (a : Array Value),
    Stand p l e R s m sargs below meth c A.U A.locs A.cells A.slots → g.method = m → g.locals.size = c.maxLocals → decode c.code g.pc = .ok (ig, len) →
    2 * g.monitorRoom + (g.stack.map fun v => v.category).sum ≤ W9 → A.U.methodNamed? y = some mk → Pre A a →
    (∃ (v : Option Value) (B : Pt), Stand p l e R s m sargs below meth c B.U B.locs B.cells B.slots ∧ Post A a v B ∧
      Steps p.tables e below (doInvoke e (A.U.setTop g) [] mk a).1 (B.U.setTop { g with pc := g.pc + len, stack := v.toList ++ g.stack })) ∨
    (∃ (q : Addr) (B : Pt), Stand p l e R s m sargs below meth c B.U B.locs B.cells B.slots ∧ PostX A a q B ∧
      Steps p.tables e below (doInvoke e (A.U.setTop g) [] mk a).1 ((B.U.setTop g).pushFrame (.throwing q)))
section Payer
variable {l : Launch} {R : Room} {p : Program} {e : Env} {below : List Frame} {s : State} {sargs : Array Value} {y : MethodName} {len W9 : Nat}
theorem vx_back {ws : List Cond} {rm : Room} {Pc : Array Value → State → Prop} {Qc : Array Value → State → Outcome → State → Prop} {XC : String → State → State → Prop} {mc ms : Nat} {free : Addr → Prop} {bytes : ByteArray} {maxL : Nat} {ret : Option FieldType}
    (hM : vx_Met l y ws rm Pc Qc XC mc ms free) (hblind : FrameBlind Pc) (hrc : rm.cells = mc) (hrs : rm.slots = ms)
    (hframes : rm.frames + 1 ≤ R.frames) (hlocals : W9 + (maxL + 11) + rm.locals ≤ R.locals)
    (hws : ∀ w ∈ ws, ∀ a' U, s.WarmedH U.vm → w.before a' U = true) (hcode : Cond.code y bytes maxL ret ∈ ws) (hinit : ∀ a' U, s.WarmedH U.vm → (Cond.initialized y.cls).before a' U = true) :
    vx_Back l R p e below s sargs y len W9 (PreOf R mc ms Pc) (PostOf Qc mc ms free) (vx_Post XC mc ms free) := by
  intro m meth c A g ig mk a X hg hsize hdg hW hn hp
  have h1 : (headSpec ws rm).pre.before a A.U = true := atoms_intro fun w hw => hws w hw _ _ X.warmed
  have h2 : (Cond.code y bytes maxL ret).before a A.U = true := hws _ hcode _ _ X.warmed
  have h3 : (Cond.initialized y.cls).before a A.U = true := hinit _ _ X.warmed
  have h4 : A.cells + (headSpec ws rm).room.cells ≤ R.cells := by rw [show (headSpec ws rm).room.cells = mc from hrc]; exact hp.1
  have h5 : A.slots + (headSpec ws rm).room.slots ≤ R.slots := by rw [show (headSpec ws rm).room.slots = ms from hrs]; exact hp.2.1
  have hPc : Pc a (A.U.calling g mk a) := hblind _ _ _ _ hp.2.2
  obtain ⟨U, Ls, c0, s0⟩ := A
  dsimp only [Pt.U, Pt.locs, Pt.cells, Pt.slots] at h1 h2 h3 h4 h5 X hn hPc ⊢
  obtain ⟨methY, cY, hmY, hcY, -, hlY, -, -, -, -⟩ := Cond.code_spec hn h2
  obtain ⟨kY, hkY, -⟩ := className_of_methodNamed hn
  have hinitY : kY.init = .initialized := Cond.initialized_spec (findClass_of_methodNamed hn) hkY h3
  have h : At U g.method c below := by rw [hg]; exact X.here
  have hlocals9 : W9 + (maxL + 11) + (headSpec ws rm).room.locals ≤ R.locals := hlocals
  have happ : (headSpec ws rm).appliesLoose y e.platform (U.calling g mk a) = true :=
    Spec.appliesLoose_calling (g := g) h hdg hn hkY hinitY
      (X.room_calling (g := g) (R' := (headSpec ws rm).room) hsize hmY hcY hframes (by rw [hlY]; omega) h4 h5) h1
  obtain ⟨mid, hmid⟩ := h.above
  have hfr : (U.setTop g).frames = (.java g :: mid) ++ below := by rw [State.frames_setTop' g h.top, hmid]; rfl
  obtain ⟨o, s₂, hsteps, -, hend, hq⟩ := Steps.callFree hM p X.admits X.cas X.clock (acts := []) hfr happ hPc trivial
  have hq' : vx_Q Qc XC mc ms free a (U.calling g mk a) o s₂ := hq
  rw [State.frames_setTop' g h.top] at hend
  obtain ⟨g₀, hg0⟩ := Option.isSome_iff_exists.mp h.top
  obtain ⟨r, hr⟩ := State.topJava?_eq_some.mp hg0
  have hr' : (({ U with heap := s₂.heap, slotsUsed := s₂.slotsUsed } : State).setVm s₂.vm).frames = .java g₀ :: r := hr
  rcases hq' with ⟨hqc, L, hfe, hL⟩ | ⟨q, rfl, E, ce, L, hx, hce, hcv, hcl, hW₂, hsm, hL⟩
  · obtain ⟨⟨v, rfl⟩, hW₂, e2, q2, q3, q4, q5, q6⟩ := id hfe
    have e3 : s₂ = ({ (U.calling g mk a).setFrames s₂.frames with heap := s₂.heap, slotsUsed := s₂.slotsUsed } : State).setVm s₂.vm := by
      have : s₂ = ({ s₂ with vm := (U.calling g mk a).vm } : State).setVm s₂.vm := rfl
      rw [e2] at this
      exact this
    obtain ⟨c₂, i₂, len₂, hc₂, hd₂, hf₂⟩ := hend
    have hW' : U.WarmedH s₂.vm := hW₂
    have hcc : c₂ = c := by
      have h1 : s₂.code? g.method = U.code? g.method := by
        rw [State.code?_eq, State.code?_eq, hW'.alike.method?]
      exact Option.some.inj (hc₂.symm.trans (h1.trans h.code))
    subst hcc
    have hlen : len₂ = len := by rw [hdg] at hd₂; cases hd₂; rfl
    subst hlen
    have hs₂ : s₂ = (({ U with heap := s₂.heap, slotsUsed := s₂.slotsUsed } : State).setVm s₂.vm).setTop { g with pc := g.pc + len₂, stack := v.toList ++ g.stack } := by
      refine e3.trans ?_
      rw [hf₂, State.calling_eq h.top, State.setFrames_setFrames, State.setTop_of_frames _ hr', hr]
      rfl
    have hsame : U.sameButNew ({ U with heap := s₂.heap, slotsUsed := s₂.slotsUsed } : State) L mc ms := by
      refine ⟨?_, q2, q3, q4, q5, q6⟩
      obtain ⟨t, ht, -⟩ := State.frames_cons hr
      show ({ U with heap := s₂.heap, slotsUsed := s₂.slotsUsed } : State) = { U.setFrames U.frames with heap := s₂.heap, slotsUsed := s₂.slotsUsed }
      rw [State.setFrames_self ht]
    subst hg
    refine Or.inl ⟨v, ⟨(({ U with heap := s₂.heap, slotsUsed := s₂.slotsUsed } : State).setVm s₂.vm), Ls ++ L, c0 + mc, s0 + ms⟩,
      ⟨X.admits, X.cas, X.clock, X.frames, X.room, X.hears, X.method, X.code, (X.here.setHeapUsed s₂.heap s₂.slotsUsed).setVm hW'.alike, X.tail, State.WarmedH.trans X.warmed hW', X.limits, X.bytes, X.same.trans (hsame.setVm s.vm)⟩,
      ⟨g, mk, s₂, L, rfl, rfl, hqc, rfl, hL, rfl, rfl⟩, ?_⟩
    show Steps p.tables e below _ ((({ U with heap := s₂.heap, slotsUsed := s₂.slotsUsed } : State).setVm s₂.vm).setTop { g with pc := g.pc + len₂, stack := v.toList ++ g.stack })
    rw [← hs₂]
    exact hsteps
  · obtain ⟨e2, q2, q3, q4, q5, q6⟩ := id hsm
    have e3 : s₂ = ({ (U.calling g mk a).setFrames s₂.frames with heap := s₂.heap, slotsUsed := s₂.slotsUsed } : State).setVm s₂.vm := by
      have : s₂ = ({ s₂ with vm := (U.calling g mk a).vm } : State).setVm s₂.vm := rfl
      rw [e2] at this
      exact this
    have hf₂ : s₂.frames = .throwing q :: .java g :: U.frames.tail := hend
    have hW' : U.WarmedH s₂.vm := hW₂
    have hs₂ : s₂ = ((({ U with heap := s₂.heap, slotsUsed := s₂.slotsUsed } : State).setVm s₂.vm).setTop g).pushFrame (.throwing q) := by
      refine e3.trans ?_
      rw [hf₂, State.calling_eq h.top, State.setFrames_setFrames, State.pushFrame, State.frames_setTop _ hr', State.setTop_of_frames _ hr', State.setFrames_setFrames, hr]
      rfl
    have hsame : U.sameButNew ({ U with heap := s₂.heap, slotsUsed := s₂.slotsUsed } : State) L mc ms := by
      refine ⟨?_, q2, q3, q4, q5, q6⟩
      obtain ⟨t, ht, -⟩ := State.frames_cons hr
      show ({ U with heap := s₂.heap, slotsUsed := s₂.slotsUsed } : State) = { U.setFrames U.frames with heap := s₂.heap, slotsUsed := s₂.slotsUsed }
      rw [State.setFrames_self ht]
    subst hg
    refine Or.inr ⟨q, ⟨(({ U with heap := s₂.heap, slotsUsed := s₂.slotsUsed } : State).setVm s₂.vm), Ls ++ L, c0 + mc, s0 + ms⟩,
      ⟨X.admits, X.cas, X.clock, X.frames, X.room, X.hears, X.method, X.code, (X.here.setHeapUsed s₂.heap s₂.slotsUsed).setVm hW'.alike, X.tail, State.WarmedH.trans X.warmed hW', X.limits, X.bytes, X.same.trans (hsame.setVm s.vm)⟩,
      ⟨g, mk, s₂, L, E, ce, rfl, rfl, hx, hce, hcv, hcl, rfl, hL, rfl, rfl⟩, ?_⟩
    show Steps p.tables e below _ (((({ U with heap := s₂.heap, slotsUsed := s₂.slotsUsed } : State).setVm s₂.vm).setTop g).pushFrame (.throwing q))
    rw [← hs₂]
    exact hsteps
end Payer
section Calls
variable {p : Program} {l : Launch} {e : Env} {R : Room} {s : State} {m : MethodId} {args : Array Value} {below : List Frame} {meth : Method} {c : Code} {T : State} {locs : List Loc} {cells slots : Nat}
theorem vx_callV (X : Stand p l e R s m args below meth c T locs cells slots) (hexec : p.tables.exec = Jvm.exec) {own C : String} {index : Nat} {y : MethodName} {bytes : ByteArray} {maxL : Nat} {ret : Option FieldType}
    (hown : s.vm.findClass own = some m.cls) (hlink : (Cond.methodLink own index y).before args s = true) (hinst : (Cond.instanceMethod y).before args s = true) (hsel : (Cond.selects C y y).before args s = true)
    (hcode : (Cond.code y bytes maxL ret).before args s = true) (hy : y.cls ≠ "java/lang/invoke/MethodHandle" ∧ y.cls ≠ "java/lang/invoke/VarHandle")
    {W9 : Nat} {Pre : Pt → Array Value → Prop} {Post : Pt → Array Value → Option Value → Pt → Prop} {PostX : Pt → Array Value → Addr → Pt → Prop} (hK : vx_Back l R p e below s args y 3 W9 Pre Post PostX)
    {b : Addr} {cellB : Cell} (hcell : T.heap[b]? = some cellB) (hobj : cellB.vm.isStatics = false) (hcls : s.vm.findClass C = some cellB.cls)
    {g : JFrame} (hg : g.method = m) (hsize : g.locals.size = c.maxLocals) {argsL rest : List Value} (hlen : ∀ sig, parseMethodDescriptor y.desc = some sig → argsL.length = sig.parameters.length)
    (hstack : g.stack = argsL.reverse ++ .ref b :: rest) (hW : 2 * g.monitorRoom + (rest.map fun v => v.category).sum ≤ W9) (hdg : decode c.code g.pc = .ok (.invokevirtual index, 3))
    (hpre : ∀ vm₁, s.WarmedH vm₁ → Pre ⟨T.setVm vm₁, locs, cells, slots⟩ (Value.ref b :: argsL).toArray) :
    (∃ (v : Option Value) (vm₁ : Vm) (B : Pt), s.WarmedH vm₁ ∧ Stand p l e R s m args below meth c B.U B.locs B.cells B.slots ∧ Post ⟨T.setVm vm₁, locs, cells, slots⟩ (Value.ref b :: argsL).toArray v B ∧
      ∀ target, Steps p.tables e below (B.U.setTop { g with pc := g.pc + 3, stack := v.toList ++ rest }) target → Steps p.tables e below (T.setTop g) target) ∨
    (∃ (q : Addr) (vm₁ : Vm) (B : Pt), s.WarmedH vm₁ ∧ Stand p l e R s m args below meth c B.U B.locs B.cells B.slots ∧ PostX ⟨T.setVm vm₁, locs, cells, slots⟩ (Value.ref b :: argsL).toArray q B ∧
      Steps p.tables e below (T.setTop g) ((B.U.setTop { g with stack := rest }).pushFrame (.throwing q))) := by
  obtain ⟨mk, methM, hnamed, hmethM, hstM, habM⟩ := Cond.instanceMethod_spec hinst
  obtain ⟨methM', cM, hmethM', -, -, -, -, -, -, hsigM⟩ := Cond.code_spec hnamed hcode
  cases hmethM.symm.trans hmethM'
  obtain ⟨c2, r2, m2, q1, q2, q3, q4, kP, hkP, hkPi⟩ := Cond.selects_spec hsel
  cases hcls.symm.trans q1
  cases (State.methodFound?_of_named hnamed hy).symm.trans q2
  cases hnamed.symm.trans q3
  have hselP : selectMethod e.platform s.vm cellB.cls mk = .method mk := by rw [Launch.admits_selectMethod X.admits]; exact q4
  obtain ⟨vm₁, X₁, hstep₁⟩ := X.invokevirtual hexec hown hlink hnamed hmethM hstM hkP hkPi hy (a := b) (cell := cellB) hcell
    (fun z h => by rw [h] at hobj; cases hobj) hselP hmethM habM hkP hkPi (g := g) hg (argsL := argsL) (rest := rest) (hlen _ hsigM) hstack hdg
  rcases hK m meth c ⟨T.setVm vm₁, locs, cells, slots⟩ { g with stack := rest } (.invokevirtual index) mk (Value.ref b :: argsL).toArray X₁ hg hsize hdg hW (X₁.named hnamed) (hpre vm₁ X₁.warmed) with ⟨v, B, X', hpost, hsteps⟩ | ⟨q, B, X', hpost, hsteps⟩
  · exact Or.inl ⟨v, vm₁, B, X₁.warmed, X', hpost, fun target h => hstep₁ _ fun acts => by rw [doInvoke_state]; exact hsteps.trans h⟩
  · exact Or.inr ⟨q, vm₁, B, X₁.warmed, X', hpost, hstep₁ _ fun acts => by rw [doInvoke_state]; exact hsteps⟩
theorem vx_callS (X : Stand p l e R s m args below meth c T locs cells slots) (hexec : p.tables.exec = Jvm.exec) {own : String} {index : Nat} {y : MethodName} {bytes : ByteArray} {maxL : Nat} {ret : Option FieldType}
    (hown : s.vm.findClass own = some m.cls) (hlink : (Cond.methodLink own index y).before args s = true) (hstat : (Cond.static y).before args s = true) (hinit : (Cond.initialized y.cls).before args s = true)
    (hcode : (Cond.code y bytes maxL ret).before args s = true) (hy : y.cls ≠ "java/lang/invoke/MethodHandle" ∧ y.cls ≠ "java/lang/invoke/VarHandle")
    {W9 : Nat} {Pre : Pt → Array Value → Prop} {Post : Pt → Array Value → Option Value → Pt → Prop} {PostX : Pt → Array Value → Addr → Pt → Prop} (hK : vx_Back l R p e below s args y 3 W9 Pre Post PostX)
    {g : JFrame} (hg : g.method = m) (hsize : g.locals.size = c.maxLocals) {argsL rest : List Value} (hlen : ∀ sig, parseMethodDescriptor y.desc = some sig → argsL.length = sig.parameters.length)
    (hstack : g.stack = argsL.reverse ++ rest) (hW : 2 * g.monitorRoom + (rest.map fun v => v.category).sum ≤ W9) (hdg : decode c.code g.pc = .ok (.invokestatic index, 3))
    (hpre : ∀ vm₁, s.WarmedH vm₁ → Pre ⟨T.setVm vm₁, locs, cells, slots⟩ argsL.toArray) :
    (∃ (v : Option Value) (vm₁ : Vm) (B : Pt), s.WarmedH vm₁ ∧ Stand p l e R s m args below meth c B.U B.locs B.cells B.slots ∧ Post ⟨T.setVm vm₁, locs, cells, slots⟩ argsL.toArray v B ∧
      ∀ target, Steps p.tables e below (B.U.setTop { g with pc := g.pc + 3, stack := v.toList ++ rest }) target → Steps p.tables e below (T.setTop g) target) ∨
    (∃ (q : Addr) (vm₁ : Vm) (B : Pt), s.WarmedH vm₁ ∧ Stand p l e R s m args below meth c B.U B.locs B.cells B.slots ∧ PostX ⟨T.setVm vm₁, locs, cells, slots⟩ argsL.toArray q B ∧
      Steps p.tables e below (T.setTop g) ((B.U.setTop { g with stack := rest }).pushFrame (.throwing q))) := by
  obtain ⟨mk, hnamed⟩ := Cond.code_named hcode
  obtain ⟨methM, cM, hmethM, -, -, -, -, -, -, hsigM⟩ := Cond.code_spec hnamed hcode
  have hstatic : methM.isStatic = true := Cond.static_spec hnamed hmethM hstat
  obtain ⟨kP, hkP, -⟩ := className_of_methodNamed hnamed
  have hinitP : kP.init = .initialized := Cond.initialized_spec (findClass_of_methodNamed hnamed) hkP hinit
  obtain ⟨vm₁, X₁, hstep₁⟩ := X.invokestatic hexec hown hlink hnamed hmethM hstatic hkP hinitP hy (g := g) hg (argsL := argsL) (rest := rest) (hlen _ hsigM) hstack hdg
  rcases hK m meth c ⟨T.setVm vm₁, locs, cells, slots⟩ { g with stack := rest } (.invokestatic index) mk argsL.toArray X₁ hg hsize hdg hW (X₁.named hnamed) (hpre vm₁ X₁.warmed) with ⟨v, B, X', hpost, hsteps⟩ | ⟨q, B, X', hpost, hsteps⟩
  · exact Or.inl ⟨v, vm₁, B, X₁.warmed, X', hpost, fun target h => hstep₁ _ fun acts => by rw [doInvoke_state]; exact hsteps.trans h⟩
  · exact Or.inr ⟨q, vm₁, B, X₁.warmed, X', hpost, hstep₁ _ fun acts => by rw [doInvoke_state]; exact hsteps⟩
end Calls
theorem vx_cls {s : State} {T : State} {vm₁ : Vm} {E : String} {k : ClassId} (hW : s.WarmedH vm₁) (h : (T.setVm vm₁).vm.findClass E = some k) : s.vm.findClass E = some k := by
  have h1 : vm₁.findClass E = some k := h
  rw [hW.alike.findClass] at h1
  exact h1
def vx_W (p : Program) (l : Launch) (e : Env) (R : Room) (s : State) (m : MethodId) (args : Array Value) (below : List Frame) (meth : Method) (c : Code) (H : Heap) (locs : List Loc) (cells slots : Nat) (Q : State → Prop) (g : JFrame) (q : Addr) : Prop :=
  ∀ T : State, T.heap = H → Stand p l e R s m args below meth c T locs cells slots → ∃ t, Steps p.tables e below ((T.setTop g).pushFrame (.throwing q)) t ∧ Q t
def vx_Run (p : Program) (l : Launch) (e : Env) (R : Room) (s : State) (m : MethodId) (args : Array Value) (below : List Frame) (meth : Method) (c : Code) (H : Heap) (locs : List Loc) (cells slots mc ms : Nat) (g : JFrame) (rest : List Value) (Qa : State → Outcome → State → Prop) (XC : String → State → State → Prop) (free : Addr → Prop) : Prop :=
  ∀ T : State, T.heap = H → Stand p l e R s m args below meth c T locs cells slots →
    (∃ (v : Option Value) (st₀ t T' : State) (L : List Loc), st₀.heap = H ∧ Stand p l e R s m args below meth c T' (locs ++ L) (cells + mc) (slots + ms) ∧ (∀ q ∈ L, free q.base) ∧ T'.heap = t.heap ∧ T'.vm = t.vm ∧ Qa st₀ (.returned v) t ∧
      Goes p e below T g T' { g with pc := g.pc + 3, stack := v.toList ++ rest }) ∨
    (∃ (q : Addr) (st₀ t T' : State) (L : List Loc) (E : String) (ce : Cell), st₀.heap = H ∧ Stand p l e R s m args below meth c T' (locs ++ L) (cells + mc) (slots + ms) ∧ (∀ z ∈ L, free z.base) ∧ T'.heap = t.heap ∧ T'.vm = t.vm ∧ XC E st₀ t ∧ t.heap[q]? = some ce ∧ ce.vm = .none ∧ s.vm.findClass E = some ce.cls ∧
      Steps p.tables e below (T.setTop g) ((T'.setTop { g with stack := rest }).pushFrame (.throwing q)))
def vx_X {S : Type} (px : S → Prop) (B : String → S → State → Prop) (A : Nat → Prop) : String → State → State → Prop := fun E st t => ∃ u : S, px u ∧ B E u t ∧ va_F A st t
section Runs
variable {p : Program} {l : Launch} {e : Env} {R : Room} {s : State} {m : MethodId} {args : Array Value} {below : List Frame} {meth : Method} {c : Code} {H : Heap} {locs : List Loc} {cells slots : Nat}
variable {y : MethodName} {bytes cc : ByteArray} {maxL nL mc ms n index : Nat} {ret : Option FieldType} {ws : List Cond} {rm : Room} {Pc : Array Value → State → Prop} {Qc : Array Value → State → Outcome → State → Prop} {XC : String → State → State → Prop} {free : Addr → Prop} {Ts : List Cond} {own C : String} {b : Addr} {As rest : List Value} {g : JFrame}
theorem vx_callBack (cb : CallB R s args own index y bytes maxL ret ws rm mc ms n) (hM : vx_Met l y ws rm Pc Qc XC mc ms free) (hbl : FrameBlind Pc) : vx_Back l R p e below s args y 3 8 (PreOf R mc ms Pc) (PostOf Qc mc ms free) (vx_Post XC mc ms free) := by
  obtain ⟨hrc, hrs, hfr, hlo, hws, hcw, -, hini, -⟩ := cb
  exact vx_back (bytes := bytes) (maxL := maxL) (ret := ret) hM hbl hrc hrs hfr hlo hws hcw (fun a' U hW => word_at hW (Or.inl (by first | rfl | simp [Cond.onTables, Cond.keeps, Cond.steady])) hini)
theorem vx_runV (S : CallFix p m c cc nL s args Ts own) (hM : vx_Met l y ws rm Pc Qc XC mc ms free) (cw : CallW R s args own C index y bytes maxL ret ws rm mc ms n) (hp : PreV s H C b Pc As)
    (hg : g.method = m) (hn : As.length = n) (hsize : g.locals.size = nL) (hstack : g.stack = As.reverse ++ .ref b :: rest) (hW : 2 * g.monitorRoom + (rest.map fun v => v.category).sum ≤ 8) (hdg : decode cc g.pc = .ok (.invokevirtual index, 3)) (hf : cells + mc ≤ R.cells ∧ slots + ms ≤ R.slots) :
    vx_Run p l e R s m args below meth c H locs cells slots mc ms g rest (Qc (Value.ref b :: As).toArray) XC free := by
  have hK : vx_Back l R p e below s args y 3 8 (PreOf R mc ms Pc) (PostOf Qc mc ms free) (vx_Post XC mc ms free) := vx_callBack cw.1 hM hp.1
  obtain ⟨⟨-, -, -, -, -, -, hcode, -, hy, hlen, hl⟩, hin, hse⟩ := cw
  obtain ⟨hx, hb, hml, ho, -⟩ := S
  obtain ⟨-, ⟨cellB, hcB, hoB, hclB⟩, hPc⟩ := hp
  intro T hT X
  rcases vx_callV X hx (C := C) (bytes := bytes) (maxL := maxL) (ret := ret) ho hl hin hse hcode hy hK (by rw [hT]; exact hcB) hoB hclB hg (hsize.trans hml.symm) (argsL := As) (rest := rest) (fun sig h => hn.trans (hlen sig h)) hstack hW (by rw [hb]; exact hdg)
    (fun vm₁ hW₁ => ⟨hf.1, hf.2, hPc (T.setVm vm₁) hT hW₁⟩) with ⟨v, vm₁, ⟨U', l2, c2, s2⟩, hW₁, X', ⟨g', mk, t, L, e1, e2, hq, h1, hL, h2, h3⟩, st⟩ | ⟨q, vm₁, ⟨U', l2, c2, s2⟩, hW₁, X', ⟨g', mk, t, L, E, ce, e1, e2, hq, hce, hcv, hcl, h1, hL, h2, h3⟩, st⟩
  · dsimp only [Pt.U, Pt.locs, Pt.cells, Pt.slots] at X' e1 e2 h1 h2 h3 st
    subst h1; subst h2; subst h3
    exact Or.inl ⟨v, (T.setVm vm₁).calling g' mk (Value.ref b :: As).toArray, t, U', L, hT, X', hL, e1, e2, hq, st⟩
  · dsimp only [Pt.U, Pt.locs, Pt.cells, Pt.slots] at X' e1 e2 h1 h2 h3 st hcl
    subst h1; subst h2; subst h3
    exact Or.inr ⟨q, (T.setVm vm₁).calling g' mk (Value.ref b :: As).toArray, t, U', L, E, ce, hT, X', hL, e1, e2, hq, hce, hcv, vx_cls hW₁ hcl, st⟩
theorem vx_runS (S : CallFix p m c cc nL s args Ts own) (hM : vx_Met l y ws rm Pc Qc XC mc ms free) (cw : CallB R s args own index y bytes maxL ret ws rm mc ms n ∧ (Cond.static y).before args s = true) (hp : PreS s H Pc As)
    (hg : g.method = m) (hn : As.length = n) (hsize : g.locals.size = nL) (hstack : g.stack = As.reverse ++ rest) (hW : 2 * g.monitorRoom + (rest.map fun v => v.category).sum ≤ 8) (hdg : decode cc g.pc = .ok (.invokestatic index, 3)) (hf : cells + mc ≤ R.cells ∧ slots + ms ≤ R.slots) :
    vx_Run p l e R s m args below meth c H locs cells slots mc ms g rest (Qc As.toArray) XC free := by
  have hK : vx_Back l R p e below s args y 3 8 (PreOf R mc ms Pc) (PostOf Qc mc ms free) (vx_Post XC mc ms free) := vx_callBack cw.1 hM hp.1
  obtain ⟨⟨-, -, -, -, -, -, hcode, hini, hy, hlen, hl⟩, hstt⟩ := cw
  obtain ⟨hx, hb, hml, ho, -⟩ := S
  intro T hT X
  rcases vx_callS X hx (bytes := bytes) (maxL := maxL) (ret := ret) ho hl hstt hini hcode hy hK hg (hsize.trans hml.symm) (argsL := As) (rest := rest) (fun sig h => hn.trans (hlen sig h)) hstack hW (by rw [hb]; exact hdg)
    (fun vm₁ hW₁ => ⟨hf.1, hf.2, hp.2 (T.setVm vm₁) hT hW₁⟩) with ⟨v, vm₁, ⟨U', l2, c2, s2⟩, hW₁, X', ⟨g', mk, t, L, e1, e2, hq, h1, hL, h2, h3⟩, st⟩ | ⟨q, vm₁, ⟨U', l2, c2, s2⟩, hW₁, X', ⟨g', mk, t, L, E, ce, e1, e2, hq, hce, hcv, hcl, h1, hL, h2, h3⟩, st⟩
  · dsimp only [Pt.U, Pt.locs, Pt.cells, Pt.slots] at X' e1 e2 h1 h2 h3 st
    subst h1; subst h2; subst h3
    exact Or.inl ⟨v, (T.setVm vm₁).calling g' mk As.toArray, t, U', L, hT, X', hL, e1, e2, hq, st⟩
  · dsimp only [Pt.U, Pt.locs, Pt.cells, Pt.slots] at X' e1 e2 h1 h2 h3 st hcl
    subst h1; subst h2; subst h3
    exact Or.inr ⟨q, (T.setVm vm₁).calling g' mk As.toArray, t, U', L, E, ce, hT, X', hL, e1, e2, hq, hce, hcv, vx_cls hW₁ hcl, st⟩
end Runs
section Rows
variable {p : Program} {l : Launch} {e : Env} {R : Room} {s : State} {m : MethodId} {args : Array Value} {below : List Frame} {meth : Method} {c : Code} {H : Heap} {locs : List Loc} {cells slots : Nat} {Q : State → Prop}
variable {mc ms : Nat} {free : Addr → Prop} {A0 A1 : Nat → Prop} {H0 : Heap} {a : Array Value} {pc : Nat} {ls : Array Slot} {st0 rest : List Value}
theorem vx_keep {st₀ t T' : State} {L : List Loc} (h0 : st₀.heap = H) (e1 : T'.heap = t.heap) (hS : va_S A0 H0 H locs) (hA : ∀ q, q < H.size → A1 q → A0 q) (hf : ∀ q, free q → A0 q) (hL : ∀ q ∈ L, free q.base) (hF : va_F A1 st₀ t) :
    H.size ≤ T'.heap.size ∧ (∀ q : Nat, q < H.size → ¬ A1 q → T'.heap[q]? = H[q]?) ∧ va_S A0 H0 T'.heap (locs ++ L) := by
  obtain ⟨hz, hk⟩ := hF
  rw [h0] at hz hk
  exact ⟨by rw [e1]; exact hz, fun q h1 h2 => by rw [e1]; exact hk q h1 h2,
    ⟨Nat.le_trans hS.1 (by rw [e1]; exact hz), fun q h1 h2 => by rw [e1, hk q (Nat.lt_of_lt_of_le h1 hS.1) (fun z => h2 (hA q (Nat.lt_of_lt_of_le h1 hS.1) z))]; exact hS.2.1 q h1 h2, fun q hq => by
      rcases List.mem_append.mp hq with h | h
      · exact hS.2.2 q h
      · exact hf _ (hL q h)⟩⟩
theorem vx_calli {S SX : Type} {post : Int32 → S → Prop} {px : SX → Prop} {B : S → State → Prop} {BX : String → SX → State → Prop} {AX : Nat → Prop} (hr : vx_Run p l e R s m args below meth c H locs cells slots mc ms (F0 m pc ls st0) rest (va_Qi post B A1 a) (vx_X px BX AX) free) (hS : va_S A0 H0 H locs) (hA : ∀ q, q < H.size → A1 q → A0 q) (hf : ∀ q, free q → A0 q) (hAX : ∀ q, q < H.size → AX q → A0 q)
    (kx : ∀ (E : String) (ce : Cell) (q9 : Addr) (u : SX) (t : State) (H1 : Heap) (locs1 : List Loc), t.heap = H1 → s.vm.Alike t.vm → px u → BX E u t → H.size ≤ H1.size → (∀ q : Nat, q < H.size → ¬ AX q → H1[q]? = H[q]?) → va_S A0 H0 H1 locs1 → H1[q9]? = some ce → ce.vm = .none → s.vm.findClass E = some ce.cls → vx_W p l e R s m args below meth c H1 locs1 (cells + mc) (slots + ms) Q (F0 m pc ls rest) q9)
    (kk : ∀ (r : Int32) (u : S) (t : State) (H1 : Heap) (locs1 : List Loc), t.heap = H1 → s.vm.Alike t.vm → post r u → B u t → H.size ≤ H1.size → (∀ q : Nat, q < H.size → ¬ A1 q → H1[q]? = H[q]?) → va_S A0 H0 H1 locs1 → W p l e R s m args below meth c H1 locs1 (cells + mc) (slots + ms) Q (F0 m (pc + 3) ls (.int r :: rest))) : W p l e R s m args below meth c H locs cells slots Q (F0 m pc ls st0) := by
  intro T hT X
  rcases hr T hT X with ⟨v, st₀, t, T', L, h0, X', hL, e1, e2, ⟨⟨r, u, hv, hp, hb⟩, hF⟩, st⟩ | ⟨q, st₀, t, T', L, E, ce, h0, X', hL, e1, e2, ⟨u, hp, hb, hF⟩, hce, hcv, hcl, st⟩
  · cases hv
    obtain ⟨k1, k2, k3⟩ := vx_keep h0 e1 hS hA hf hL hF
    obtain ⟨t2, a1, b1⟩ := kk r u t T'.heap (locs ++ L) e1.symm (by rw [← e2]; exact X'.warmed.alike) hp hb k1 k2 k3 T' rfl X'
    exact ⟨t2, st t2 a1, b1⟩
  · obtain ⟨k1, k2, k3⟩ := vx_keep h0 e1 hS hAX hf hL hF
    obtain ⟨t2, a1, b1⟩ := kx E ce q u t T'.heap (locs ++ L) e1.symm (by rw [← e2]; exact X'.warmed.alike) hp hb k1 k2 k3 (by rw [e1]; exact hce) hcv hcl T' rfl X'
    exact ⟨t2, st.trans a1, b1⟩
theorem vx_calll {S SX : Type} {post : Int64 → S → Prop} {px : SX → Prop} {B : S → State → Prop} {BX : String → SX → State → Prop} {AX : Nat → Prop} (hr : vx_Run p l e R s m args below meth c H locs cells slots mc ms (F0 m pc ls st0) rest (va_Ql post B A1 a) (vx_X px BX AX) free) (hS : va_S A0 H0 H locs) (hA : ∀ q, q < H.size → A1 q → A0 q) (hf : ∀ q, free q → A0 q) (hAX : ∀ q, q < H.size → AX q → A0 q)
    (kx : ∀ (E : String) (ce : Cell) (q9 : Addr) (u : SX) (t : State) (H1 : Heap) (locs1 : List Loc), t.heap = H1 → s.vm.Alike t.vm → px u → BX E u t → H.size ≤ H1.size → (∀ q : Nat, q < H.size → ¬ AX q → H1[q]? = H[q]?) → va_S A0 H0 H1 locs1 → H1[q9]? = some ce → ce.vm = .none → s.vm.findClass E = some ce.cls → vx_W p l e R s m args below meth c H1 locs1 (cells + mc) (slots + ms) Q (F0 m pc ls rest) q9)
    (kk : ∀ (r : Int64) (u : S) (t : State) (H1 : Heap) (locs1 : List Loc), t.heap = H1 → s.vm.Alike t.vm → post r u → B u t → H.size ≤ H1.size → (∀ q : Nat, q < H.size → ¬ A1 q → H1[q]? = H[q]?) → va_S A0 H0 H1 locs1 → W p l e R s m args below meth c H1 locs1 (cells + mc) (slots + ms) Q (F0 m (pc + 3) ls (.long r :: rest))) : W p l e R s m args below meth c H locs cells slots Q (F0 m pc ls st0) := by
  intro T hT X
  rcases hr T hT X with ⟨v, st₀, t, T', L, h0, X', hL, e1, e2, ⟨⟨r, u, hv, hp, hb⟩, hF⟩, st⟩ | ⟨q, st₀, t, T', L, E, ce, h0, X', hL, e1, e2, ⟨u, hp, hb, hF⟩, hce, hcv, hcl, st⟩
  · cases hv
    obtain ⟨k1, k2, k3⟩ := vx_keep h0 e1 hS hA hf hL hF
    obtain ⟨t2, a1, b1⟩ := kk r u t T'.heap (locs ++ L) e1.symm (by rw [← e2]; exact X'.warmed.alike) hp hb k1 k2 k3 T' rfl X'
    exact ⟨t2, st t2 a1, b1⟩
  · obtain ⟨k1, k2, k3⟩ := vx_keep h0 e1 hS hAX hf hL hF
    obtain ⟨t2, a1, b1⟩ := kx E ce q u t T'.heap (locs ++ L) e1.symm (by rw [← e2]; exact X'.warmed.alike) hp hb k1 k2 k3 (by rw [e1]; exact hce) hcv hcl T' rfl X'
    exact ⟨t2, st.trans a1, b1⟩
theorem vx_callf {S SX : Type} {post : UInt32 → S → Prop} {px : SX → Prop} {B : S → State → Prop} {BX : String → SX → State → Prop} {AX : Nat → Prop} (hr : vx_Run p l e R s m args below meth c H locs cells slots mc ms (F0 m pc ls st0) rest (va_Qf post B A1 a) (vx_X px BX AX) free) (hS : va_S A0 H0 H locs) (hA : ∀ q, q < H.size → A1 q → A0 q) (hf : ∀ q, free q → A0 q) (hAX : ∀ q, q < H.size → AX q → A0 q)
    (kx : ∀ (E : String) (ce : Cell) (q9 : Addr) (u : SX) (t : State) (H1 : Heap) (locs1 : List Loc), t.heap = H1 → s.vm.Alike t.vm → px u → BX E u t → H.size ≤ H1.size → (∀ q : Nat, q < H.size → ¬ AX q → H1[q]? = H[q]?) → va_S A0 H0 H1 locs1 → H1[q9]? = some ce → ce.vm = .none → s.vm.findClass E = some ce.cls → vx_W p l e R s m args below meth c H1 locs1 (cells + mc) (slots + ms) Q (F0 m pc ls rest) q9)
    (kk : ∀ (r : UInt32) (u : S) (t : State) (H1 : Heap) (locs1 : List Loc), t.heap = H1 → s.vm.Alike t.vm → post r u → B u t → H.size ≤ H1.size → (∀ q : Nat, q < H.size → ¬ A1 q → H1[q]? = H[q]?) → va_S A0 H0 H1 locs1 → W p l e R s m args below meth c H1 locs1 (cells + mc) (slots + ms) Q (F0 m (pc + 3) ls (.float r :: rest))) : W p l e R s m args below meth c H locs cells slots Q (F0 m pc ls st0) := by
  intro T hT X
  rcases hr T hT X with ⟨v, st₀, t, T', L, h0, X', hL, e1, e2, ⟨⟨r, u, hv, hp, hb⟩, hF⟩, st⟩ | ⟨q, st₀, t, T', L, E, ce, h0, X', hL, e1, e2, ⟨u, hp, hb, hF⟩, hce, hcv, hcl, st⟩
  · cases hv
    obtain ⟨k1, k2, k3⟩ := vx_keep h0 e1 hS hA hf hL hF
    obtain ⟨t2, a1, b1⟩ := kk r u t T'.heap (locs ++ L) e1.symm (by rw [← e2]; exact X'.warmed.alike) hp hb k1 k2 k3 T' rfl X'
    exact ⟨t2, st t2 a1, b1⟩
  · obtain ⟨k1, k2, k3⟩ := vx_keep h0 e1 hS hAX hf hL hF
    obtain ⟨t2, a1, b1⟩ := kx E ce q u t T'.heap (locs ++ L) e1.symm (by rw [← e2]; exact X'.warmed.alike) hp hb k1 k2 k3 (by rw [e1]; exact hce) hcv hcl T' rfl X'
    exact ⟨t2, st.trans a1, b1⟩
theorem vx_calld {S SX : Type} {post : UInt64 → S → Prop} {px : SX → Prop} {B : S → State → Prop} {BX : String → SX → State → Prop} {AX : Nat → Prop} (hr : vx_Run p l e R s m args below meth c H locs cells slots mc ms (F0 m pc ls st0) rest (va_Qd post B A1 a) (vx_X px BX AX) free) (hS : va_S A0 H0 H locs) (hA : ∀ q, q < H.size → A1 q → A0 q) (hf : ∀ q, free q → A0 q) (hAX : ∀ q, q < H.size → AX q → A0 q)
    (kx : ∀ (E : String) (ce : Cell) (q9 : Addr) (u : SX) (t : State) (H1 : Heap) (locs1 : List Loc), t.heap = H1 → s.vm.Alike t.vm → px u → BX E u t → H.size ≤ H1.size → (∀ q : Nat, q < H.size → ¬ AX q → H1[q]? = H[q]?) → va_S A0 H0 H1 locs1 → H1[q9]? = some ce → ce.vm = .none → s.vm.findClass E = some ce.cls → vx_W p l e R s m args below meth c H1 locs1 (cells + mc) (slots + ms) Q (F0 m pc ls rest) q9)
    (kk : ∀ (r : UInt64) (u : S) (t : State) (H1 : Heap) (locs1 : List Loc), t.heap = H1 → s.vm.Alike t.vm → post r u → B u t → H.size ≤ H1.size → (∀ q : Nat, q < H.size → ¬ A1 q → H1[q]? = H[q]?) → va_S A0 H0 H1 locs1 → W p l e R s m args below meth c H1 locs1 (cells + mc) (slots + ms) Q (F0 m (pc + 3) ls (.double r :: rest))) : W p l e R s m args below meth c H locs cells slots Q (F0 m pc ls st0) := by
  intro T hT X
  rcases hr T hT X with ⟨v, st₀, t, T', L, h0, X', hL, e1, e2, ⟨⟨r, u, hv, hp, hb⟩, hF⟩, st⟩ | ⟨q, st₀, t, T', L, E, ce, h0, X', hL, e1, e2, ⟨u, hp, hb, hF⟩, hce, hcv, hcl, st⟩
  · cases hv
    obtain ⟨k1, k2, k3⟩ := vx_keep h0 e1 hS hA hf hL hF
    obtain ⟨t2, a1, b1⟩ := kk r u t T'.heap (locs ++ L) e1.symm (by rw [← e2]; exact X'.warmed.alike) hp hb k1 k2 k3 T' rfl X'
    exact ⟨t2, st t2 a1, b1⟩
  · obtain ⟨k1, k2, k3⟩ := vx_keep h0 e1 hS hAX hf hL hF
    obtain ⟨t2, a1, b1⟩ := kx E ce q u t T'.heap (locs ++ L) e1.symm (by rw [← e2]; exact X'.warmed.alike) hp hb k1 k2 k3 (by rw [e1]; exact hce) hcv hcl T' rfl X'
    exact ⟨t2, st.trans a1, b1⟩
theorem vx_callv {S SX : Type} {post : S → Prop} {px : SX → Prop} {B : S → State → Prop} {BX : String → SX → State → Prop} {AX : Nat → Prop} (hr : vx_Run p l e R s m args below meth c H locs cells slots mc ms (F0 m pc ls st0) rest (va_Qv post B A1 a) (vx_X px BX AX) free) (hS : va_S A0 H0 H locs) (hA : ∀ q, q < H.size → A1 q → A0 q) (hf : ∀ q, free q → A0 q) (hAX : ∀ q, q < H.size → AX q → A0 q)
    (kx : ∀ (E : String) (ce : Cell) (q9 : Addr) (u : SX) (t : State) (H1 : Heap) (locs1 : List Loc), t.heap = H1 → s.vm.Alike t.vm → px u → BX E u t → H.size ≤ H1.size → (∀ q : Nat, q < H.size → ¬ AX q → H1[q]? = H[q]?) → va_S A0 H0 H1 locs1 → H1[q9]? = some ce → ce.vm = .none → s.vm.findClass E = some ce.cls → vx_W p l e R s m args below meth c H1 locs1 (cells + mc) (slots + ms) Q (F0 m pc ls rest) q9)
    (kk : ∀ (u : S) (t : State) (H1 : Heap) (locs1 : List Loc), t.heap = H1 → s.vm.Alike t.vm → post u → B u t → H.size ≤ H1.size → (∀ q : Nat, q < H.size → ¬ A1 q → H1[q]? = H[q]?) → va_S A0 H0 H1 locs1 → W p l e R s m args below meth c H1 locs1 (cells + mc) (slots + ms) Q (F0 m (pc + 3) ls (rest))) : W p l e R s m args below meth c H locs cells slots Q (F0 m pc ls st0) := by
  intro T hT X
  rcases hr T hT X with ⟨v, st₀, t, T', L, h0, X', hL, e1, e2, ⟨⟨u, hv, hp, hb⟩, hF⟩, st⟩ | ⟨q, st₀, t, T', L, E, ce, h0, X', hL, e1, e2, ⟨u, hp, hb, hF⟩, hce, hcv, hcl, st⟩
  · cases hv
    obtain ⟨k1, k2, k3⟩ := vx_keep h0 e1 hS hA hf hL hF
    obtain ⟨t2, a1, b1⟩ := kk u t T'.heap (locs ++ L) e1.symm (by rw [← e2]; exact X'.warmed.alike) hp hb k1 k2 k3 T' rfl X'
    exact ⟨t2, st t2 a1, b1⟩
  · obtain ⟨k1, k2, k3⟩ := vx_keep h0 e1 hS hAX hf hL hF
    obtain ⟨t2, a1, b1⟩ := kx E ce q u t T'.heap (locs ++ L) e1.symm (by rw [← e2]; exact X'.warmed.alike) hp hb k1 k2 k3 (by rw [e1]; exact hce) hcv hcl T' rfl X'
    exact ⟨t2, st.trans a1, b1⟩
theorem vx_catch {own name : String} {E : String} {ce : Cell} {q : Addr} (hown : s.vm.findClass own = some m.cls) (pre : List ExceptionTableEntry) (x : ExceptionTableEntry) (suf : List ExceptionTableEntry) (hsplit : c.exceptionTable.toList = pre ++ x :: suf)
    (hpass : ∀ z ∈ pre, covers z pc = false ∨ (z.catchType ≠ 0 ∧ ∃ nm : String, (Cond.classLink own z.catchType nm).before args s = true ∧ va_Nc E nm s)) (hx : covers x pc = true) (h0 : x.catchType ≠ 0)
    (hlink : (Cond.classLink own x.catchType name).before args s = true) (hcast : (Cond.castable E name).before args s = true) (hcell : H[q]? = some ce) (hv : ce.vm = .none) (hcl : s.vm.findClass E = some ce.cls)
    (kk : W p l e R s m args below meth c H locs cells slots Q (F0 m x.handlerPc ls [.ref q])) : vx_W p l e R s m args below meth c H locs cells slots Q (F0 m pc ls rest) q := by
  intro T hT X
  have hpl : e.platform.magicAccessors = ({} : Platform).magicAccessors := by rw [X.admits.platform]
  obtain ⟨c3, c4, hc3, hc4, hasg⟩ := Cond.castable_spec hcast
  cases Option.some.inj (hc3.symm.trans hcl)
  obtain ⟨c5, hc5, hcl5⟩ := Cond.classLink_spec hown hlink e.platform hpl
  cases Option.some.inj (hc4.symm.trans hc5)
  obtain ⟨vm', X', st⟩ := X.thenCaughtThrough q (g := F0 m pc ls rest) rfl (Steps.refl _) (by rw [hT]; exact hcell) (by rw [hv]; rfl) (by obtain ⟨k9, h9, -⟩ := Vm.findClass_spec hcl; exact ⟨k9, h9⟩) pre x suf hsplit
    (fun z hz => by
      rcases hpass z hz with h | ⟨hz0, nm, hl1, hn1⟩
      · exact Or.inl h
      · obtain ⟨c6, hc6, hcl6⟩ := Cond.classLink_spec hown hl1 e.platform hpl
        obtain ⟨a8, b8, h1, h2, h3⟩ := hn1
        cases Option.some.inj (h1.symm.trans hcl)
        cases Option.some.inj (h2.symm.trans hc6)
        exact Or.inr ⟨hz0, _, hcl6, h3⟩) hx (Or.inr ⟨h0, c4, hcl5, hasg⟩)
  obtain ⟨t, a1, b1⟩ := kk (T.setVm vm') hT X'
  exact ⟨t, st.trans a1, b1⟩
end Rows
section Ends
variable {p : Program} {l : Launch} {e : Env} {R : Room} {s : State} {m : MethodId} {args : Array Value} {below : List Frame} {meth : Method} {c : Code} {H : Heap} {locs : List Loc} {cells slots : Nat} {Q : State → Prop}
variable {mc ms : Nat} {free : Addr → Prop} {A0 A1 : Nat → Prop} {H0 : Heap} {a : Array Value} {ls : Array Slot} {st0 rest : List Value}
variable {Qc : Array Value → State → Outcome → State → Prop} {XC : String → State → State → Prop}
def vx_MQ (below : List Frame) (Qc : Array Value → State → Outcome → State → Prop) (XC : String → State → State → Prop) (a : Array Value) (s : State) (mc ms : Nat) (free : Addr → Prop) : State → Prop := fun t =>
  ∃ o, t.status = .running ∧ Ended t below o ∧ vx_Q Qc XC mc ms free a s o t
theorem vx_ret {g : JFrame} {mc ms : Nat} (k : W p l e R s m args below meth c H locs cells slots (MQ below Qc args s mc ms free) g) : W p l e R s m args below meth c H locs cells slots (vx_MQ below Qc XC args s mc ms free) g := by
  intro T hT X
  obtain ⟨t, a1, o, b1, b2, b3, b4⟩ := k T hT X
  exact ⟨t, a1, o, b1, b2, Or.inl ⟨b3, b4⟩⟩
theorem vx_widen {g : JFrame} {q : Addr} {k n : Nat} (h1 : cells ≤ k) (h2 : slots ≤ n) (kk : vx_W p l e R s m args below meth c H locs k n Q g q) : vx_W p l e R s m args below meth c H locs cells slots Q g q := fun T hT X => kk T hT (stand_widen X h1 h2)
theorem vx_out {pc : Nat} {E : String} {ce : Cell} {q : Addr} {mc ms : Nat} (hout : ∀ x ∈ c.exceptionTable.toList, covers x pc = false) (hlocks : meth.locks = false) (hcell : H[q]? = some ce) (hv : ce.vm = .none) (hcl : s.vm.findClass E = some ce.cls)
    (hx : ∀ t : State, t.heap = H → s.vm.Alike t.vm → XC E s t) (hf : ∀ z ∈ locs, free z.base) (hc : cells ≤ mc) (hs : slots ≤ ms) :
    vx_W p l e R s m args below meth c H locs cells slots (vx_MQ below Qc XC args s mc ms free) (F0 m pc ls rest) q := by
  intro T hT X
  obtain ⟨st1, hrun, hend, hW, hsm⟩ := X.leaveThrown q (g := F0 m pc ls rest) rfl rfl rfl hout hlocks
  have hcell9 : (T.setFrames (.throwing q :: below)).heap[q]? = some ce := by
    show T.heap[q]? = some ce
    rw [hT]; exact hcell
  exact ⟨_, st1, .threw q, hrun, hend, Or.inr ⟨q, rfl, E, ce, locs, hx _ hT hW.alike, hcell9, hv, hcl, hW, hsm.mono hc hs, hf⟩⟩
theorem vx_frame {U : State} {k n : Nat} (h : s.sameButNew ({ U with vm := s.vm } : State) locs k n) : s.heap.size ≤ U.heap.size ∧ ∀ q : Nat, q < s.heap.size → (∀ z ∈ locs, z.base ≠ q) → U.heap[q]? = s.heap[q]? := by
  obtain ⟨-, h2, -, -, -, h6⟩ := h
  refine ⟨h2, fun q hq hz => ?_⟩
  obtain ⟨c9, e1, e2, e3, e4⟩ := h6 q _ (Array.getElem?_eq_getElem hq)
  have hs : c9.slots = (s.heap[q]).slots := Array.ext_getElem? fun i => e4 i fun hm => hz _ hm rfl
  have h9 : c9 = s.heap[q] := by
    rw [hs] at e2
    exact e2
  have e5 : U.heap[q]? = some c9 := e1
  rw [e5, h9, Array.getElem?_eq_getElem hq]
def vx_no (w : Cond) : Bool := decide (w ≠ .isRef (.static Bundle.tN "UNASSIGNED_STACK" Bundle.steD)) && decide (w ≠ .isRef (.static Bundle.tN "SUPPRESSED_SENTINEL" Bundle.listD)) && decide (w ≠ .laysStatic Bundle.tN "UNASSIGNED_STACK" Bundle.steD) && decide (w ≠ .laysStatic Bundle.tN "SUPPRESSED_SENTINEL" Bundle.listD)
def vx_at0 (own : String) (ic : Nat) (X : String) (names : List String) : List Cond := (Bundle.ownAtoms0 own ic X names).filter vx_no
def vx_atS (own : String) (ic : Nat) (X : String) (names : List String) : List Cond := (Bundle.ownAtoms own ic X names).filter vx_no
def vx_ot (w : Cond) : Bool := w.onTables || goodWord w
theorem vx_ot_at {args a' : Array Value} {s U : State} {w : Cond} (hW : s.WarmedH U.vm) (hvm : s.vm = U.vm) (hg : vx_ot w = true) (h : w.before args s = true) : w.before a' U = true := by
  simp only [vx_ot, Bool.or_eq_true] at hg
  rcases hg with hg | hg
  · exact va_tabs hg hvm h
  · exact word_at hW (good_of_word hg) h
theorem vx_hat {args : Array Value} {s : State} {L B : List Cond} (h1 : ∀ w ∈ L.filter goodWord, w.before args s = true) (h2 : ∀ w ∈ L.filter (fun w => !goodWord w), w ∈ B) (h3 : ∀ w ∈ B, w.before args s = true) : ∀ w ∈ L, w.before args s = true := by
  intro w hw
  by_cases g : goodWord w = true
  · exact h1 w (List.mem_filter.mpr ⟨hw, g⟩)
  · refine h3 w (h2 w (List.mem_filter.mpr ⟨hw, ?_⟩))
    show (!goodWord w) = true
    cases hgw : goodWord w
    · rfl
    · exact absurd hgw g
theorem vx_c {args : Array Value} {s : State} {w : Cond} {B : List Cond} (h : w.before args s = true) (t : ∀ w ∈ B, w.before args s = true) : ∀ w' ∈ w :: B, w'.before args s = true := fun w' h' => (List.mem_cons.mp h').elim (fun e => by rw [e]; exact h) (t w')
theorem vx_n {args : Array Value} {s : State} : ∀ w ∈ ([] : List Cond), w.before args s = true := fun _ h => nomatch h
theorem vx_own {args : Array Value} {s : State} {L : List Cond} (h1 : ∀ w ∈ L.filter vx_no, w.before args s = true)
    (hU : (Cond.isRef (.static Bundle.tN "UNASSIGNED_STACK" Bundle.steD)).before args s = true) (hN : (Cond.isRef (.static Bundle.tN "SUPPRESSED_SENTINEL" Bundle.listD)).before args s = true)
    (lU : (Cond.laysStatic Bundle.tN "UNASSIGNED_STACK" Bundle.steD).before args s = true) (lN : (Cond.laysStatic Bundle.tN "SUPPRESSED_SENTINEL" Bundle.listD).before args s = true) : ∀ w ∈ L, w.before args s = true := by
  intro w hw
  by_cases e1 : w = .isRef (.static Bundle.tN "UNASSIGNED_STACK" Bundle.steD)
  · rw [e1]; exact hU
  · by_cases e2 : w = .isRef (.static Bundle.tN "SUPPRESSED_SENTINEL" Bundle.listD)
    · rw [e2]; exact hN
    · by_cases e3 : w = .laysStatic Bundle.tN "UNASSIGNED_STACK" Bundle.steD
      · rw [e3]; exact lU
      · by_cases e4 : w = .laysStatic Bundle.tN "SUPPRESSED_SENTINEL" Bundle.listD
        · rw [e4]; exact lN
        · exact h1 w (List.mem_filter.mpr ⟨hw, by unfold vx_no; rw [decide_eq_true e1, decide_eq_true e2, decide_eq_true e3, decide_eq_true e4]; rfl⟩)
def vx_L (C n d : String) (A : Nat → Prop) (U : State) (H : Heap) : Prop := ∃ (c : ClassId) (k : Class) (i : Nat) (f : Field) (a : Nat) (cell : Cell), U.vm.findClass C = some c ∧ U.fieldFound? C n d = some (c, k, i, f) ∧ f.isStatic = true ∧ k.statics = some a ∧ H[a]? = some cell ∧ cell.vm.isStatics = true ∧ cell.cls = c ∧ f.slot < cell.slots.size ∧ k.staticTypes[f.slot]? = some f.type ∧ ¬ A a
theorem vx_L.moved {C n d : String} {A : Nat → Prop} {u U : State} {H : Heap} (hvm : u.vm.Alike U.vm) (h : vx_L C n d A u H) : vx_L C n d A U H := by
  obtain ⟨c, k, i, f, a, cell, h1, h2, h3, h4, h5, h6, h7, h8, h9, h10⟩ := h
  obtain ⟨k', hi', he⟩ := State.fieldFound?_setVm hvm h2
  exact ⟨c, k', i, f, a, cell, by rw [hvm.findClass]; exact h1, hi', h3, by rw [he]; exact h4, h5, h6, h7, h8, by rw [he]; exact h9, h10⟩
theorem vx_L.kept {C n d : String} {A : Nat → Prop} {U : State} {H H1 : Heap} (h : vx_L C n d A U H) (hq : ∀ a : Nat, a < H.size → ¬ A a → H1[a]? = H[a]?) : vx_L C n d A U H1 := by
  obtain ⟨c, k, i, f, a, cell, h1, h2, h3, h4, h5, h6, h7, h8, h9, h10⟩ := h
  exact ⟨c, k, i, f, a, cell, h1, h2, h3, h4, by rw [hq a (Array.getElem?_eq_some_iff.mp h5).1 h10]; exact h5, h6, h7, h8, h9, h10⟩
theorem vx_L.narrow {C n d : String} {A B : Nat → Prop} {U : State} {H : Heap} (h : vx_L C n d A U H) (hAB : ∀ q, B q → A q) : vx_L C n d B U H := by
  obtain ⟨c, k, i, f, a, cell, h1, h2, h3, h4, h5, h6, h7, h8, h9, h10⟩ := h
  exact ⟨c, k, i, f, a, cell, h1, h2, h3, h4, h5, h6, h7, h8, h9, fun z => h10 (hAB _ z)⟩
theorem vx_L.word {C n d : String} {A : Nat → Prop} {s : State} {args : Array Value} (h : vx_L C n d A s s.heap) : (Cond.laysStatic C n d).before args s = true := by
  obtain ⟨c, k, i, f, a, cell, h1, h2, h3, h4, h5, h6, h7, h8, h9, -⟩ := h
  show (Cond.laysStatic C n d).holds args s none s [] = true
  exact Cond.laysStatic_of h1 h2 h3 h4 h5 h6 h7 h8 h9
def vx_Zq (C n d : String) (A : Nat → Prop) (U : State) (H : Heap) : Prop := va_Zq C n d A U H ∧ vx_L C n d A U H
theorem vx_Zq.moved {C n d : String} {A : Nat → Prop} {u U : State} {H : Heap} (hvm : u.vm.Alike U.vm) (h : vx_Zq C n d A u H) : vx_Zq C n d A U H := ⟨va_Zq.moved hvm h.1, vx_L.moved hvm h.2⟩
theorem vx_Zq.kept {C n d : String} {A : Nat → Prop} {U : State} {H H1 : Heap} (h : vx_Zq C n d A U H) (hq : ∀ a : Nat, a < H.size → ¬ A a → H1[a]? = H[a]?) : vx_Zq C n d A U H1 := ⟨va_Zq.kept h.1 hq, vx_L.kept h.2 hq⟩
theorem vx_Zq.narrow {C n d : String} {A B : Nat → Prop} {U : State} {H : Heap} (h : vx_Zq C n d A U H) (hAB : ∀ q, B q → A q) : vx_Zq C n d B U H := ⟨va_Zq.narrow h.1 hAB, vx_L.narrow h.2 hAB⟩
theorem vx_Zqof {args : Array Value} {s : State} {C n d : String} {A : Nat → Prop} (hl : (Cond.laysStatic C n d).before args s = true) (hini : (Cond.initialized C).before args s = true) (h : (Cond.isRef (.static C n d)).before args s = true) (hA : ∀ a : Nat, a < s.heap.size → ¬ A a) : vx_Zq C n d A s s.heap := by
  refine ⟨va_Zqof hl hini h hA, ?_⟩
  obtain ⟨c, k, i, f, a, cell, h1, h2, h3, h4, h5, h6, h7, h8, h9⟩ := Cond.laysStatic_spec hl
  exact ⟨c, k, i, f, a, cell, h1, h2, h3, h4, h5, h6, h7, h8, h9, hA a (Array.getElem?_eq_some_iff.mp h5).1⟩
theorem vx_isRef {C n d : String} {v : Value} {A : Nat → Prop} {s : State} {args : Array Value} (h : va_Z C n d v A s s.heap) (hv : v.isRef = true) : (Cond.isRef (.static C n d)).before args s = true := by
  obtain ⟨cf, kf, fi, f, a, cell, h1, h2, h3, h4, h5, h6, h7, -⟩ := h
  have he : (Term.static C n d).eval args s none [] s = some v := by
    simp [Term.eval, State.fieldNamed?, h1, h2, h4, h5, h6, h7]
  simp only [Cond.before, Cond.holds, Cond.value, he]
  cases v <;> simp_all [Value.isRef]
theorem vx_isRefq {C n d : String} {A : Nat → Prop} {s : State} {args : Array Value} (h : va_Zq C n d A s s.heap) : (Cond.isRef (.static C n d)).before args s = true := by
  rcases h with h | ⟨t, h⟩
  · exact vx_isRef h rfl
  · exact vx_isRef h rfl
theorem vx_rebase {T : State} (X : Stand p l e R s m args below meth c T locs cells slots) {R' : Room} (hf : R'.frames ≤ R.frames) (hl : R'.locals ≤ R.locals) (hc : cells + R'.cells ≤ R.cells) (hs : slots + R'.slots ≤ R.slots) :
    Stand p l e R' ((T.setVm s.vm).setFrames (.invoking m args :: below)) m args below meth c T [] 0 0 := by
  have htop : (T.setVm s.vm).topJava?.isSome := X.here.top
  have hF : ((T.setVm s.vm).setFrames (.invoking m args :: below)).frames = .invoking m args :: below := State.frames_setFrames _ (State.cur_lt_of_top htop)
  obtain ⟨g₀, hg0⟩ := Option.isSome_iff_exists.mp htop
  obtain ⟨r, hr⟩ := State.topJava?_eq_some.mp hg0
  have hl9 : e.platform.stackLimits (T.setVm s.vm).me = e.platform.stackLimits s.me := X.limits
  have hb9 : (T.setVm s.vm).me.stackBytes = s.me.stackBytes := X.bytes
  refine ⟨X.admits, X.cas, X.clock, hF, ?_, X.hears, X.method, X.code, X.here, X.tail, X.warmed, ?_, ?_, ?_⟩
  · have h := X.room
    have hU : ((T.setVm s.vm).setFrames (.invoking m args :: below)).localsInUse = s.localsInUse := by
      rw [State.localsInUse_invoking hF (meth := meth) (c := c) X.method X.code, State.localsInUse_invoking X.frames X.method X.code]
    simp only [State.hasRoom, Bool.and_eq_true, decide_eq_true_eq] at h ⊢
    obtain ⟨⟨⟨⟨h1, h2, h3, h4, h5, h6⟩, h7⟩, h8⟩, h9⟩ := h
    rw [X.frames, List.length_cons] at h2 h3
    have q1 := X.heapSize
    have q2 := X.used
    simp only [hF, hU, List.length_cons, State.stackLimits_setFrames, State.stackBytes_setFrames, hl9, hb9]
    refine ⟨⟨⟨⟨by omega, by omega, by omega, by omega, by omega, h6⟩, ?_⟩, ?_⟩, X.book⟩
    · show T.heap.size + R'.cells ≤ e.platform.maxCells
      omega
    · show T.slotsUsed + R'.slots ≤ e.platform.maxSlots
      omega
  · rw [State.stackLimits_setFrames]; rfl
  · rw [State.stackBytes_setFrames]; rfl
  · refine ⟨?_, Nat.le_refl _, Nat.le_refl _, ?_, ?_, fun a c9 h9 => ⟨c9, h9, rfl, rfl, fun _ _ => rfl⟩⟩
    · obtain ⟨t, ht, -⟩ := State.frames_cons hr
      show T.setVm s.vm = { ((T.setVm s.vm).setFrames (.invoking m args :: below)).setFrames (T.setVm s.vm).frames with heap := T.heap, slotsUsed := T.slotsUsed }
      rw [State.setFrames_setFrames, State.setFrames_self ht]
      rfl
    · show T.slotsUsed = T.slotsUsed + ((T.heap.toList.drop T.heap.size).map (·.slots.size)).sum
      rw [List.drop_eq_nil_of_le (Nat.le_of_eq Array.length_toList)]
      rfl
    · show ((T.heap.toList.drop T.heap.size).map (·.slots.size)).sum ≤ 0
      rw [List.drop_eq_nil_of_le (Nat.le_of_eq Array.length_toList)]
      exact Nat.le_refl _
theorem vx_throw0 {cc : ByteArray} {pc : Nat} (hexec : p.tables.exec = Jvm.exec) (hb : c.code = cc) (hl : l.stackTraces = false) {own cls : String} {names : List String} {ik ic mc ms : Nat} {A : Nat → Prop}
    (hown : s.vm.findClass own = some m.cls) (hcls : Bundle.fit cls = true) (hnames : ∀ n ∈ names, Bundle.fit n = true)
    (hk : (Cond.classLink own ik cls).before args s = true) (hini : (Cond.initialized cls).before args s = true) (hat : ∀ w ∈ vx_at0 own ic cls names, w.before args s = true)
    (hgood : ∀ w ∈ Cond.classLink own ik cls :: Cond.initialized cls :: vx_at0 own ic cls names, vx_ot w = true)
    (hU : vx_Zq Bundle.tN "UNASSIGNED_STACK" Bundle.steD A s s.heap) (hN : vx_Zq Bundle.tN "SUPPRESSED_SENTINEL" Bundle.listD A s s.heap) (hS : va_S A s.heap H locs) (hsize : ls.size = c.maxLocals)
    (d0 : decode cc pc = .ok (.new ik, 3)) (d3 : decode cc (pc + 3) = .ok (.dup, 1)) (d4 : decode cc (pc + 4) = .ok (.invokespecial ic, 3)) (d7 : decode cc (pc + 7) = .ok (.athrow, 1))
    (hout : ∀ x ∈ c.exceptionTable.toList, covers x (pc + 7) = false)
    (hRframes : names.length + 3 < R.frames) (hRlocals : (rest.map fun v => v.category).sum + (13 * (names.length + 1) + 42) ≤ R.locals) (hRcells : cells + 1 ≤ R.cells) (hRslots : slots + 6 ≤ R.slots) (hlocks : meth.locks = false)
    (hx : ∀ t : State, s.vm.Alike t.vm → H.size ≤ t.heap.size → (∀ q : Nat, q < H.size → t.heap[q]? = H[q]?) → XC cls s t)
    (hf : ∀ z ∈ locs, free z.base) (hc : cells + 1 ≤ mc) (hs : slots + 6 ≤ ms) :
    W p l e R s m args below meth c H locs cells slots (vx_MQ below Qc XC args s mc ms free) (F0 m pc ls rest) := by
  intro T hT X
  have htr : e.platform.stackTraces = false := (show e.platform.stackTraces = l.stackTraces by rw [X.admits.platform]).trans hl
  have Y := vx_rebase X (R' := { frames := R.frames, locals := R.locals, cells := 1, slots := 6 }) (Nat.le_refl _) (Nat.le_refl _) hRcells hRslots
  obtain ⟨s', hA⟩ : ∃ z, z = (T.setVm s.vm).setFrames (.invoking m args :: below) := ⟨_, rfl⟩
  rw [← hA] at Y
  have hvm : s'.vm = s.vm := by rw [hA]; rfl
  have hhp : s'.heap = H := by rw [hA]; exact hT
  have hW0 : s.WarmedH s'.vm := by rw [hvm]; exact State.WarmedH.refl s
  have hat' : ∀ w ∈ vx_at0 own ic cls names, w.before args s' = true := fun w hw => vx_ot_at hW0 hvm.symm (hgood w (List.mem_cons_of_mem _ (List.mem_cons_of_mem _ hw))) (hat w hw)
  have hk' : (Cond.classLink own ik cls).before args s' = true := vx_ot_at hW0 hvm.symm (hgood _ List.mem_cons_self) hk
  have hini' : (Cond.initialized cls).before args s' = true := vx_ot_at hW0 hvm.symm (hgood _ (List.mem_cons_of_mem _ List.mem_cons_self)) hini
  have hU' : vx_Zq Bundle.tN "UNASSIGNED_STACK" Bundle.steD A s' s'.heap := by rw [hhp]; exact vx_Zq.moved hW0.alike (hU.kept hS.2.1)
  have hN' : vx_Zq Bundle.tN "SUPPRESSED_SENTINEL" Bundle.listD A s' s'.heap := by rw [hhp]; exact vx_Zq.moved hW0.alike (hN.kept hS.2.1)
  have h : ∀ w ∈ Bundle.ownAtoms0 own ic cls names, w.before args s' = true := vx_own hat' (vx_isRefq hU'.1) (vx_isRefq hN'.1) hU'.2.word hN'.2.word
  have hown' : s'.vm.findClass own = some m.cls := by rw [hvm]; exact hown
  have hins : (Cond.instantiable cls 6).before args s' = true := h _ (by simp [Bundle.ownAtoms0])
  obtain ⟨vm₁, cX, kX, hfX, hkX, -, -, X₁, st1⟩ := Y.newCold hexec (own := own) (C := cls) (index := ik) (n := 6) hown' hk' hins hini'
    (g := F0 m pc ls rest) rfl (by rw [hb]; exact d0) (Nat.le_refl _) (Nat.le_refl _)
  generalize hT1 : (T.setVm vm₁).pushCell { cls := cX, slots := kX.instanceTypes.map defaultValue, vm := .none } = T1 at X₁ st1
  have hcat : (Value.ref T.heap.size).category = 1 := rfl
  have hcellA : T1.heap[T.heap.size]? = some (freshCell cX kX) := by rw [← hT1]; exact State.heap_pushCell_size _ _
  have d3' : decode c.code (pc + 3) = .ok (.dup, 1) := by rw [hb]; exact d3
  obtain ⟨U, hsteps, hrun, hend, hW, hsame, ce, hce, hO⟩ := X₁.ctorThrow0 hexec htr (own := own) (cls := cls) (names := names) (ic := ic) hown' hcls hnames h (fun x hx => nomatch hx) hfX hkX hcellA (by rw [hhp, hT]; exact Nat.le_refl _)
    (g := { method := m, pc := pc + 4, locals := ls, stack := .ref T.heap.size :: .ref T.heap.size :: rest, locked := none }) rfl hsize rfl rfl (rest := rest) rfl
    (by rw [hb]; exact d4) (by rw [hb]; exact d7) hout hRframes (by simp only [List.map_cons, List.sum_cons, hcat]; omega) hlocks
  obtain ⟨f1, f2⟩ := vx_frame hsame
  rw [hhp] at f1 f2
  have hWs : s.WarmedH U.vm := State.WarmedH.trans hW0 hW
  have hcl : s.vm.findClass cls = some ce.cls := by
    have h9 := hO.cls
    rw [hvm] at h9
    exact h9
  have hall : s.sameButNew ({ U with vm := s.vm } : State) locs mc ms := by
    subst hA
    obtain ⟨e1, e2⟩ := hsame
    rw [State.setFrames_setFrames] at e1
    have h2 : (T.setVm s.vm).sameButNew ({ U with vm := s.vm } : State) [] (0 + 1) (0 + 6) := ⟨e1, e2⟩
    have h3 := X.same.trans h2
    rw [List.append_nil] at h3
    exact h3.mono hc hs
  refine ⟨U, ?_, .threw T.heap.size, hrun, hend, Or.inr ⟨T.heap.size, rfl, cls, ce, locs, hx U hWs.alike f1 (fun q hq => f2 q hq (fun z hz => nomatch hz)), hce, hO.vm, hcl, hWs, hall, hf⟩⟩
  refine st1 _ ?_
  show Steps p.tables e below (T1.setTop { method := m, pc := pc + 3, locals := ls, stack := .ref T.heap.size :: rest, locked := none }) _
  jvm_step X₁.here [X₁.here.top, hexec, d3', Value.category]
  exact hsteps
theorem vx_throwS {cc : ByteArray} {pc : Nat} (hexec : p.tables.exec = Jvm.exec) (hb : c.code = cc) (hl : l.stackTraces = false) {own cls text : String} {names : List String} {ik is ic mc ms sa : Nat} {A : Nat → Prop}
    (hown : s.vm.findClass own = some m.cls) (hcls : Bundle.fit cls = true) (hnames : ∀ n ∈ names, Bundle.fit n = true)
    (hk : (Cond.classLink own ik cls).before args s = true) (hini : (Cond.initialized cls).before args s = true) (hstr : vk_R own is text sa s) (hat : ∀ w ∈ vx_atS own ic cls names, w.before args s = true)
    (hgood : ∀ w ∈ Cond.classLink own ik cls :: Cond.initialized cls :: vx_atS own ic cls names, vx_ot w = true)
    (hU : vx_Zq Bundle.tN "UNASSIGNED_STACK" Bundle.steD A s s.heap) (hN : vx_Zq Bundle.tN "SUPPRESSED_SENTINEL" Bundle.listD A s s.heap) (hS : va_S A s.heap H locs) (hsize : ls.size = c.maxLocals)
    (d0 : decode cc pc = .ok (.new ik, 3)) (d3 : decode cc (pc + 3) = .ok (.dup, 1)) (d4 : decode cc (pc + 4) = .ok (.ldc is, 2)) (d6 : decode cc (pc + 6) = .ok (.invokespecial ic, 3)) (d9 : decode cc (pc + 9) = .ok (.athrow, 1))
    (hout : ∀ x ∈ c.exceptionTable.toList, covers x (pc + 9) = false)
    (hRframes : names.length + 3 < R.frames) (hRlocals : (rest.map fun v => v.category).sum + (13 * (names.length + 1) + 43) ≤ R.locals) (hRcells : cells + 1 ≤ R.cells) (hRslots : slots + 6 ≤ R.slots) (hlocks : meth.locks = false)
    (hx : ∀ t : State, s.vm.Alike t.vm → H.size ≤ t.heap.size → (∀ q : Nat, q < H.size → t.heap[q]? = H[q]?) → XC cls s t)
    (hf : ∀ z ∈ locs, free z.base) (hc : cells + 1 ≤ mc) (hs : slots + 6 ≤ ms) :
    W p l e R s m args below meth c H locs cells slots (vx_MQ below Qc XC args s mc ms free) (F0 m pc ls rest) := by
  intro T hT X
  have htr : e.platform.stackTraces = false := (show e.platform.stackTraces = l.stackTraces by rw [X.admits.platform]).trans hl
  have Y := vx_rebase X (R' := { frames := R.frames, locals := R.locals, cells := 1, slots := 6 }) (Nat.le_refl _) (Nat.le_refl _) hRcells hRslots
  obtain ⟨s', hA⟩ : ∃ z, z = (T.setVm s.vm).setFrames (.invoking m args :: below) := ⟨_, rfl⟩
  rw [← hA] at Y
  have hvm : s'.vm = s.vm := by rw [hA]; rfl
  have hhp : s'.heap = H := by rw [hA]; exact hT
  have hW0 : s.WarmedH s'.vm := by rw [hvm]; exact State.WarmedH.refl s
  have hat' : ∀ w ∈ vx_atS own ic cls names, w.before args s' = true := fun w hw => vx_ot_at hW0 hvm.symm (hgood w (List.mem_cons_of_mem _ (List.mem_cons_of_mem _ hw))) (hat w hw)
  have hk' : (Cond.classLink own ik cls).before args s' = true := vx_ot_at hW0 hvm.symm (hgood _ List.mem_cons_self) hk
  have hini' : (Cond.initialized cls).before args s' = true := vx_ot_at hW0 hvm.symm (hgood _ (List.mem_cons_of_mem _ List.mem_cons_self)) hini
  have hU' : vx_Zq Bundle.tN "UNASSIGNED_STACK" Bundle.steD A s' s'.heap := by rw [hhp]; exact vx_Zq.moved hW0.alike (hU.kept hS.2.1)
  have hN' : vx_Zq Bundle.tN "SUPPRESSED_SENTINEL" Bundle.listD A s' s'.heap := by rw [hhp]; exact vx_Zq.moved hW0.alike (hN.kept hS.2.1)
  have h : ∀ w ∈ Bundle.ownAtoms own ic cls names, w.before args s' = true := vx_own hat' (vx_isRefq hU'.1) (vx_isRefq hN'.1) hU'.2.word hN'.2.word
  have hown' : s'.vm.findClass own = some m.cls := by rw [hvm]; exact hown
  have hins : (Cond.instantiable cls 6).before args s' = true := h _ (by simp [Bundle.ownAtoms])
  obtain ⟨vm₁, cX, kX, hfX, hkX, -, -, X₁, st1⟩ := Y.newCold hexec (own := own) (C := cls) (index := ik) (n := 6) hown' hk' hins hini'
    (g := F0 m pc ls rest) rfl (by rw [hb]; exact d0) (Nat.le_refl _) (Nat.le_refl _)
  generalize hT1 : (T.setVm vm₁).pushCell { cls := cX, slots := kX.instanceTypes.map defaultValue, vm := .none } = T1 at X₁ st1
  have hcat : (Value.ref T.heap.size).category = 1 := rfl
  have hcellA : T1.heap[T.heap.size]? = some (freshCell cX kX) := by rw [← hT1]; exact State.heap_pushCell_size _ _
  have d3' : decode c.code (pc + 3) = .ok (.dup, 1) := by rw [hb]; exact d3
  have d4' : decode c.code (pc + 4) = .ok (.ldc is, 2) := by rw [hb]; exact d4
  have hstr' : vk_R own is text sa s' := vk_R.warm hW0 hstr
  obtain ⟨U, hsteps, hrun, hend, hW, hsame, ce, hce, hO⟩ := X₁.ctorThrowS hexec htr (own := own) (cls := cls) (names := names) (ic := ic) hown' hcls hnames h (fun x hx => nomatch hx) hfX hkX hcellA (by rw [hhp, hT]; exact Nat.le_refl _) (msg := .ref sa) rfl
    (g := { method := m, pc := pc + 6, locals := ls, stack := .ref sa :: .ref T.heap.size :: .ref T.heap.size :: rest, locked := none }) rfl hsize rfl rfl (rest := rest) rfl
    (by rw [hb]; exact d6) (by rw [hb]; exact d9) hout hRframes (by simp only [List.map_cons, List.sum_cons, hcat]; omega) hlocks
  obtain ⟨f1, f2⟩ := vx_frame hsame
  rw [hhp] at f1 f2
  have hWs : s.WarmedH U.vm := State.WarmedH.trans hW0 hW
  have hcl : s.vm.findClass cls = some ce.cls := by
    have h9 := hO.cls
    rw [hvm] at h9
    exact h9
  have hall : s.sameButNew ({ U with vm := s.vm } : State) locs mc ms := by
    subst hA
    obtain ⟨e1, e2⟩ := hsame
    rw [State.setFrames_setFrames] at e1
    have h2 : (T.setVm s.vm).sameButNew ({ U with vm := s.vm } : State) [] (0 + 1) (0 + 6) := ⟨e1, e2⟩
    have h3 := X.same.trans h2
    rw [List.append_nil] at h3
    exact h3.mono hc hs
  refine ⟨U, ?_, .threw T.heap.size, hrun, hend, Or.inr ⟨T.heap.size, rfl, cls, ce, locs, hx U hWs.alike f1 (fun q hq => f2 q hq (fun z hz => nomatch hz)), hce, hO.vm, hcl, hWs, hall, hf⟩⟩
  refine st1 _ ?_
  show Steps p.tables e below (T1.setTop { method := m, pc := pc + 3, locals := ls, stack := .ref T.heap.size :: rest, locked := none }) _
  jvm_step X₁.here [X₁.here.top, hexec, d3', Value.category]
  exact X₁.ldcString hexec (own := own) (text := text) (index := is) (a := sa) hown' hstr'.1 hstr'.2
    (g := { method := m, pc := pc + 4, locals := ls, stack := .ref T.heap.size :: .ref T.heap.size :: rest, locked := none }) rfl d4' _ hsteps
theorem vx_throwSW {cc : ByteArray} {pc : Nat} (hexec : p.tables.exec = Jvm.exec) (hb : c.code = cc) (hl : l.stackTraces = false) {own cls text : String} {names : List String} {ik is ic mc ms sa : Nat} {A : Nat → Prop}
    (hown : s.vm.findClass own = some m.cls) (hcls : Bundle.fit cls = true) (hnames : ∀ n ∈ names, Bundle.fit n = true)
    (hk : (Cond.classLink own ik cls).before args s = true) (hini : (Cond.initialized cls).before args s = true) (hstr : vk_R own is text sa s) (hat : ∀ w ∈ vx_atS own ic cls names, w.before args s = true)
    (hgood : ∀ w ∈ Cond.classLink own ik cls :: Cond.initialized cls :: vx_atS own ic cls names, vx_ot w = true)
    (hU : vx_Zq Bundle.tN "UNASSIGNED_STACK" Bundle.steD A s s.heap) (hN : vx_Zq Bundle.tN "SUPPRESSED_SENTINEL" Bundle.listD A s s.heap) (hS : va_S A s.heap H locs) (hsize : ls.size = c.maxLocals)
    (d0 : decode cc pc = .ok (.new ik, 3)) (d3 : decode cc (pc + 3) = .ok (.dup, 1)) (d4 : decode cc (pc + 4) = .ok (.ldc_w is, 3)) (d7 : decode cc (pc + 7) = .ok (.invokespecial ic, 3)) (d10 : decode cc (pc + 10) = .ok (.athrow, 1))
    (hout : ∀ x ∈ c.exceptionTable.toList, covers x (pc + 10) = false)
    (hRframes : names.length + 3 < R.frames) (hRlocals : (rest.map fun v => v.category).sum + (13 * (names.length + 1) + 43) ≤ R.locals) (hRcells : cells + 1 ≤ R.cells) (hRslots : slots + 6 ≤ R.slots) (hlocks : meth.locks = false)
    (hx : ∀ t : State, s.vm.Alike t.vm → H.size ≤ t.heap.size → (∀ q : Nat, q < H.size → t.heap[q]? = H[q]?) → XC cls s t)
    (hf : ∀ z ∈ locs, free z.base) (hc : cells + 1 ≤ mc) (hs : slots + 6 ≤ ms) :
    W p l e R s m args below meth c H locs cells slots (vx_MQ below Qc XC args s mc ms free) (F0 m pc ls rest) := by
  intro T hT X
  have htr : e.platform.stackTraces = false := (show e.platform.stackTraces = l.stackTraces by rw [X.admits.platform]).trans hl
  have Y := vx_rebase X (R' := { frames := R.frames, locals := R.locals, cells := 1, slots := 6 }) (Nat.le_refl _) (Nat.le_refl _) hRcells hRslots
  obtain ⟨s', hA⟩ : ∃ z, z = (T.setVm s.vm).setFrames (.invoking m args :: below) := ⟨_, rfl⟩
  rw [← hA] at Y
  have hvm : s'.vm = s.vm := by rw [hA]; rfl
  have hhp : s'.heap = H := by rw [hA]; exact hT
  have hW0 : s.WarmedH s'.vm := by rw [hvm]; exact State.WarmedH.refl s
  have hat' : ∀ w ∈ vx_atS own ic cls names, w.before args s' = true := fun w hw => vx_ot_at hW0 hvm.symm (hgood w (List.mem_cons_of_mem _ (List.mem_cons_of_mem _ hw))) (hat w hw)
  have hk' : (Cond.classLink own ik cls).before args s' = true := vx_ot_at hW0 hvm.symm (hgood _ List.mem_cons_self) hk
  have hini' : (Cond.initialized cls).before args s' = true := vx_ot_at hW0 hvm.symm (hgood _ (List.mem_cons_of_mem _ List.mem_cons_self)) hini
  have hU' : vx_Zq Bundle.tN "UNASSIGNED_STACK" Bundle.steD A s' s'.heap := by rw [hhp]; exact vx_Zq.moved hW0.alike (hU.kept hS.2.1)
  have hN' : vx_Zq Bundle.tN "SUPPRESSED_SENTINEL" Bundle.listD A s' s'.heap := by rw [hhp]; exact vx_Zq.moved hW0.alike (hN.kept hS.2.1)
  have h : ∀ w ∈ Bundle.ownAtoms own ic cls names, w.before args s' = true := vx_own hat' (vx_isRefq hU'.1) (vx_isRefq hN'.1) hU'.2.word hN'.2.word
  have hown' : s'.vm.findClass own = some m.cls := by rw [hvm]; exact hown
  have hins : (Cond.instantiable cls 6).before args s' = true := h _ (by simp [Bundle.ownAtoms])
  obtain ⟨vm₁, cX, kX, hfX, hkX, -, -, X₁, st1⟩ := Y.newCold hexec (own := own) (C := cls) (index := ik) (n := 6) hown' hk' hins hini'
    (g := F0 m pc ls rest) rfl (by rw [hb]; exact d0) (Nat.le_refl _) (Nat.le_refl _)
  generalize hT1 : (T.setVm vm₁).pushCell { cls := cX, slots := kX.instanceTypes.map defaultValue, vm := .none } = T1 at X₁ st1
  have hcat : (Value.ref T.heap.size).category = 1 := rfl
  have hcellA : T1.heap[T.heap.size]? = some (freshCell cX kX) := by rw [← hT1]; exact State.heap_pushCell_size _ _
  have d3' : decode c.code (pc + 3) = .ok (.dup, 1) := by rw [hb]; exact d3
  have d4' : decode c.code (pc + 4) = .ok (.ldc_w is, 3) := by rw [hb]; exact d4
  have hstr' : vk_R own is text sa s' := vk_R.warm hW0 hstr
  obtain ⟨U, hsteps, hrun, hend, hW, hsame, ce, hce, hO⟩ := X₁.ctorThrowS hexec htr (own := own) (cls := cls) (names := names) (ic := ic) hown' hcls hnames h (fun x hx => nomatch hx) hfX hkX hcellA (by rw [hhp, hT]; exact Nat.le_refl _) (msg := .ref sa) rfl
    (g := { method := m, pc := pc + 7, locals := ls, stack := .ref sa :: .ref T.heap.size :: .ref T.heap.size :: rest, locked := none }) rfl hsize rfl rfl (rest := rest) rfl
    (by rw [hb]; exact d7) (by rw [hb]; exact d10) hout hRframes (by simp only [List.map_cons, List.sum_cons, hcat]; omega) hlocks
  obtain ⟨f1, f2⟩ := vx_frame hsame
  rw [hhp] at f1 f2
  have hWs : s.WarmedH U.vm := State.WarmedH.trans hW0 hW
  have hcl : s.vm.findClass cls = some ce.cls := by
    have h9 := hO.cls
    rw [hvm] at h9
    exact h9
  have hall : s.sameButNew ({ U with vm := s.vm } : State) locs mc ms := by
    subst hA
    obtain ⟨e1, e2⟩ := hsame
    rw [State.setFrames_setFrames] at e1
    have h2 : (T.setVm s.vm).sameButNew ({ U with vm := s.vm } : State) [] (0 + 1) (0 + 6) := ⟨e1, e2⟩
    have h3 := X.same.trans h2
    rw [List.append_nil] at h3
    exact h3.mono hc hs
  refine ⟨U, ?_, .threw T.heap.size, hrun, hend, Or.inr ⟨T.heap.size, rfl, cls, ce, locs, hx U hWs.alike f1 (fun q hq => f2 q hq (fun z hz => nomatch hz)), hce, hO.vm, hcl, hWs, hall, hf⟩⟩
  refine st1 _ ?_
  show Steps p.tables e below (T1.setTop { method := m, pc := pc + 3, locals := ls, stack := .ref T.heap.size :: rest, locked := none }) _
  jvm_step X₁.here [X₁.here.top, hexec, d3', Value.category]
  exact X₁.ldcStringW hexec (own := own) (text := text) (index := is) (a := sa) hown' hstr'.1 hstr'.2
    (g := { method := m, pc := pc + 4, locals := ls, stack := .ref T.heap.size :: .ref T.heap.size :: rest, locked := none }) rfl d4' _ hsteps
end Ends
section Bodies
variable {l : Launch}
theorem vx_ofW {y : MethodName} {ws ws' : List Cond} {rm : Room} {Pc : Array Value → State → Prop} {Qc : Array Value → State → Outcome → State → Prop} {XC : String → State → State → Prop} {mc ms : Nat} {free : Addr → Prop} {cc : ByteArray} {maxL : Nat} {ret : Option FieldType}
    (hy : plainName y.cls = true) (hw : ws = Cond.code y cc maxL ret :: ws')
    (body : ∀ p e s m args below meth c s₁, BodyLoose p l y (headSpec ws rm) cc maxL ret e s m args below meth c s₁ → c.maxLocals = maxL → (∀ x ∈ c.exceptionTable.toList, False) → Pc args s →
      W p l e (headSpec ws rm).room s m args below meth c s.heap [] 0 0 (vx_MQ below Qc XC args s mc ms free) (entryFrame m args maxL)) : vx_Met l y ws rm Pc Qc XC mc ms free := by
  refine MetFree.of_bodyS (code := cc) (maxLocals := maxL) (ret := ret) hy ?_ ?_
  · intro args s m h hn
    obtain ⟨meth, c, h1, h2, h3, h4, h5, h6, -, -⟩ := Cond.code_spec hn (atoms_spec (ws := ws) h _ (by rw [hw]; exact List.mem_cons_self))
    exact ⟨meth, c, h1, h2, h3, h4, h5, h6⟩
  · intro p e s m args below meth c s₁ B hml hP _
    have hh0 : s₁.heap = s.heap := by rw [B.state]; rfl
    have ht : ∀ x ∈ c.exceptionTable.toList, False := by
      obtain ⟨meth9, c9, h1, h2, -, -, -, -, h7, -⟩ := Cond.code_spec B.named (atoms_spec (ws := ws) B.pre _ (by rw [hw]; exact List.mem_cons_self))
      cases Option.some.inj (h1.symm.trans B.method)
      cases Option.some.inj (h2.symm.trans (Stand.of_body B).code)
      intro x hx
      rw [Array.isEmpty_iff.mp h7] at hx
      cases hx
    obtain ⟨t, a1, o, b1, b2, b3⟩ := body p e s m args below meth c s₁ B hml ht hP s₁ hh0 (Stand.of_body B)
    exact ⟨t, o, a1, b1, b2, b3⟩
theorem vx_table {p : Program} {x y : MethodName} {S : Spec} {cc bytes : ByteArray} {maxL maxL' : Nat} {ret ret' : Option FieldType} {e : Env} {s s₁ : State} {m : MethodId} {args : Array Value} {below : List Frame} {meth : Method} {c : Code} {hh : List (Nat × Nat × Nat × Nat)}
    (B : BodyLoose p l y S cc maxL ret e s m args below meth c s₁) (h : (Cond.codeWith y bytes maxL' ret' hh).before args s = true) : c.exceptionTable.toList = tableOf hh := by
  obtain ⟨m9, meth9, c9, hn9, h1, h2, -, -, h6, -⟩ := Cond.codeWith_spec h
  cases Option.some.inj (hn9.symm.trans B.named)
  cases Option.some.inj (h1.symm.trans B.method)
  cases Option.some.inj (h2.symm.trans (Stand.of_body B).code)
  rw [← h6, table_eq]
end Bodies
end VXA
section VXS
variable {p : Program} {l : Launch} {e : Env} {R : Room} {s : State} {m : MethodId} {args : Array Value} {below : List Frame} {meth : Method} {c : Code} {T : State} {H : Heap} {locs : List Loc} {cells slots : Nat}
abbrev vx_CSW (R : Room) (s : State) (args : Array Value) (own : String) (index : Nat) (y : MethodName) (bytes : ByteArray) (maxL : Nat) (ret : Option FieldType) (hh : List (Nat × Nat × Nat × Nat)) (ws : List Cond) (rm : Room) (mc ms n : Nat) : Prop :=
  (rm.cells = mc ∧ rm.slots = ms ∧ rm.frames + 1 ≤ R.frames ∧ 8 + (maxL + 11) + rm.locals ≤ R.locals ∧ (∀ w ∈ ws, ∀ (a' : Array Value) (U : State), s.WarmedH U.vm → w.before a' U = true) ∧ Cond.codeWith y bytes maxL ret hh ∈ ws) ∧
  (Cond.codeWith y bytes maxL ret hh).before args s = true ∧ (Cond.initialized y.cls).before args s = true ∧ (y.cls ≠ "java/lang/invoke/MethodHandle" ∧ y.cls ≠ "java/lang/invoke/VarHandle") ∧
  (∀ sig, parseMethodDescriptor y.desc = some sig → n = sig.parameters.length) ∧ (Cond.methodLink own index y).before args s = true ∧ (Cond.static y).before args s = true
theorem vx_cwSW {own : String} {index maxL mc ms : Nat} {y : MethodName} {bytes : ByteArray} {ret : Option FieldType} {hh : List (Nat × Nat × Nat × Nat)} {Ts ws ws' : List Cond} {rm : Room} (n : Nat) (ht : ∀ w ∈ Ts, w.before args s = true) (hT : GoodIn Ts (va_wsS own index y ws)) (hw : ws = Cond.codeWith y bytes maxL ret hh :: ws') (hrc : rm.cells = mc) (hrs : rm.slots = ms)
    (hd : y.cls ≠ "java/lang/invoke/MethodHandle" ∧ y.cls ≠ "java/lang/invoke/VarHandle" ∧ (parseMethodDescriptor y.desc).map (fun d => d.parameters.length) = some n) (hR : rm.frames + 1 ≤ R.frames ∧ 8 + (maxL + 11) + rm.locals ≤ R.locals) :
    vx_CSW R s args own index y bytes maxL ret hh ws rm mc ms n := by
  have ok : ∀ w ∈ va_wsS own index y ws, w.before args s = true := fun w h => ht w (hT w h).1
  have hG : GoodIn Ts ws := fun w h => hT w (by unfold va_wsS; exact List.mem_append_right _ h)
  have hc : Cond.codeWith y bytes maxL ret hh ∈ ws := by rw [hw]; exact List.mem_cons_self
  refine ⟨⟨hrc, hrs, hR.1, hR.2, pay_in ht hG, hc⟩, ht _ (hG _ hc).1, ok _ (by simp [va_wsS]), ⟨hd.1, hd.2.1⟩, fun sig h => ?_, ok _ (by simp [va_wsS]), ok _ (by simp [va_wsS])⟩
  have h2 := hd.2.2
  rw [h] at h2
  exact (Option.some.inj h2).symm
theorem vx_callSW (X : Stand p l e R s m args below meth c T locs cells slots) (hexec : p.tables.exec = Jvm.exec) {own : String} {index : Nat} {y : MethodName} {bytes : ByteArray} {maxL : Nat} {ret : Option FieldType} {hh : List (Nat × Nat × Nat × Nat)}
    (hown : s.vm.findClass own = some m.cls) (hlink : (Cond.methodLink own index y).before args s = true) (hstat : (Cond.static y).before args s = true) (hinit : (Cond.initialized y.cls).before args s = true)
    (hcode : (Cond.codeWith y bytes maxL ret hh).before args s = true) (hy : y.cls ≠ "java/lang/invoke/MethodHandle" ∧ y.cls ≠ "java/lang/invoke/VarHandle")
    {W9 : Nat} {Pre : Pt → Array Value → Prop} {Post : Pt → Array Value → Option Value → Pt → Prop} (hK : Back l R p e below s args y 3 W9 Pre Post)
    {g : JFrame} (hg : g.method = m) (hsize : g.locals.size = c.maxLocals) {argsL rest : List Value} (hlen : ∀ sig, parseMethodDescriptor y.desc = some sig → argsL.length = sig.parameters.length)
    (hstack : g.stack = argsL.reverse ++ rest) (hW : 2 * g.monitorRoom + (rest.map fun v => v.category).sum ≤ W9) (hdg : decode c.code g.pc = .ok (.invokestatic index, 3))
    (hpre : ∀ vm₁, s.WarmedH vm₁ → Pre ⟨T.setVm vm₁, locs, cells, slots⟩ argsL.toArray) :
    ∃ (v : Option Value) (vm₁ : Vm) (B : Pt), s.WarmedH vm₁ ∧ Stand p l e R s m args below meth c B.U B.locs B.cells B.slots ∧ Post ⟨T.setVm vm₁, locs, cells, slots⟩ argsL.toArray v B ∧
      ∀ target, Steps p.tables e below (B.U.setTop { g with pc := g.pc + 3, stack := v.toList ++ rest }) target → Steps p.tables e below (T.setTop g) target := by
  obtain ⟨mk, methM, cM, hnamed, hmethM, -, -, -, -, -, -, hsigM⟩ := Cond.codeWith_spec hcode
  have hstatic : methM.isStatic = true := Cond.static_spec hnamed hmethM hstat
  obtain ⟨kP, hkP, -⟩ := className_of_methodNamed hnamed
  have hinitP : kP.init = .initialized := Cond.initialized_spec (findClass_of_methodNamed hnamed) hkP hinit
  obtain ⟨vm₁, X₁, hstep₁⟩ := X.invokestatic hexec hown hlink hnamed hmethM hstatic hkP hinitP hy (g := g) hg (argsL := argsL) (rest := rest) (hlen _ hsigM) hstack hdg
  obtain ⟨v, B, X', hpost, hsteps⟩ := hK m meth c ⟨T.setVm vm₁, locs, cells, slots⟩ { g with stack := rest } (.invokestatic index) mk argsL.toArray X₁ hg hsize hdg hW (X₁.named hnamed) (hpre vm₁ X₁.warmed)
  exact ⟨v, vm₁, B, X₁.warmed, X', hpost, fun target h => hstep₁ _ fun acts => by rw [doInvoke_state]; exact hsteps.trans h⟩
theorem vx_runSW {y : MethodName} {bytes cc : ByteArray} {maxL nL mc ms n index : Nat} {ret : Option FieldType} {hh : List (Nat × Nat × Nat × Nat)} {ws : List Cond} {rm : Room} {Pc : Array Value → State → Prop} {Qc : Array Value → State → Outcome → State → Prop} {free : Addr → Prop} {Ts : List Cond} {own : String} {As rest : List Value} {g : JFrame}
    (S : CallFix p m c cc nL s args Ts own) (hM : Met l y ws rm Pc Qc mc ms free) (cw : vx_CSW R s args own index y bytes maxL ret hh ws rm mc ms n) (hp : PreS s H Pc As)
    (hg : g.method = m) (hn : As.length = n) (hsize : g.locals.size = nL) (hstack : g.stack = As.reverse ++ rest) (hW : 2 * g.monitorRoom + (rest.map fun v => v.category).sum ≤ 8) (hdg : decode cc g.pc = .ok (.invokestatic index, 3)) (hf : cells + mc ≤ R.cells ∧ slots + ms ≤ R.slots) :
    va_Run p l e R s m args below meth c H locs cells slots mc ms g rest (Qc As.toArray) (free) := by
  obtain ⟨⟨hrc, hrs, hfr, hlo, hws, hcw⟩, hcode, hini, hy, hlen, hl, hstt⟩ := cw
  have hK : Back l R p e below s args y 3 8 (PreOf R mc ms Pc) (PostOf Qc mc ms free) := va_backW (hh := hh) (bytes := bytes) (maxL := maxL) (ret := ret) hM hp.1 hrc hrs hfr hlo hws hcw (fun a' U hW => word_at hW (Or.inl (by first | rfl | simp [Cond.onTables, Cond.keeps, Cond.steady])) hini)
  obtain ⟨hx, hb, hml, ho, -⟩ := S
  intro T hT X
  obtain ⟨v, vm₁, ⟨U', l2, c2, s2⟩, hW₁, X', ⟨g', mk, t, L, e1, e2, hq, h1, hL, h2, h3⟩, st⟩ := vx_callSW X hx (hh := hh) (bytes := bytes) (maxL := maxL) (ret := ret) ho hl hstt hini hcode hy hK hg (hsize.trans hml.symm) (argsL := As) (rest := rest) (fun sig h => hn.trans (hlen sig h)) hstack hW (by rw [hb]; exact hdg)
    (fun vm₁ hW₁ => ⟨hf.1, hf.2, hp.2 (T.setVm vm₁) hT hW₁⟩)
  dsimp only [Pt.U, Pt.locs, Pt.cells, Pt.slots] at X' e1 e2 h1 h2 h3 st
  subst h1; subst h2; subst h3
  exact ⟨v, (T.setVm vm₁).calling g' mk As.toArray, t, U', L, hT, X', hL, e1, e2, hq, st⟩
theorem vx_outP {p : Program} {l : Launch} {e : Env} {R : Room} {s : State} {m : MethodId} {args : Array Value} {below : List Frame} {meth : Method} {c : Code} {H : Heap} {locs : List Loc} {cells slots : Nat} {free : Addr → Prop} {ls : Array Slot} {rest : List Value} {Qc : Array Value → State → Outcome → State → Prop} {XC : String → State → State → Prop}
    {pc : Nat} {own E : String} {ce : Cell} {q : Addr} {mc ms : Nat} (hown : s.vm.findClass own = some m.cls) (hlocks : meth.locks = false)
    (hpass : ∀ z ∈ c.exceptionTable.toList, covers z pc = false ∨ (z.catchType ≠ 0 ∧ ∃ nm : String, (Cond.classLink own z.catchType nm).before args s = true ∧ va_Nc E nm s)) (hcell : H[q]? = some ce) (hv : ce.vm = .none) (hcl : s.vm.findClass E = some ce.cls)
    (hx : ∀ t : State, t.heap = H → s.vm.Alike t.vm → XC E s t) (hf : ∀ z ∈ locs, free z.base) (hc : cells ≤ mc) (hs : slots ≤ ms) :
    vx_W p l e R s m args below meth c H locs cells slots (vx_MQ below Qc XC args s mc ms free) (F0 m pc ls rest) q := by
  intro T hT X
  have hpl : e.platform.magicAccessors = ({} : Platform).magicAccessors := by rw [X.admits.platform]
  obtain ⟨vm', hW', X', st⟩ := X.outThrough hlocks q (g := F0 m pc ls rest) rfl rfl rfl (cell := ce) (by rw [hT]; exact hcell) (by rw [hv]; rfl)
    (by obtain ⟨k9, h9, -⟩ := Vm.findClass_spec hcl; exact ⟨k9, h9⟩) (fun z hz => by
      rcases hpass z hz with h | ⟨hz0, nm, hl1, hn1⟩
      · exact Or.inl h
      · obtain ⟨c6, hc6, hcl6⟩ := Cond.classLink_spec hown hl1 e.platform hpl
        obtain ⟨a8, b8, h1, h2, h3⟩ := hn1
        cases Option.some.inj (h1.symm.trans hcl)
        cases Option.some.inj (h2.symm.trans hc6)
        exact Or.inr ⟨hz0, _, hcl6, h3⟩)
  obtain ⟨g₀, hfr⟩ := X'.frames_eq
  have hcell9 : ((T.setVm vm').setFrames (.throwing q :: below)).heap[q]? = some ce := by
    show T.heap[q]? = some ce
    rw [hT]; exact hcell
  have hend : Ended ((T.setVm vm').setFrames (.throwing q :: below)) below (.threw q) := State.frames_setFrames _ (State.cur_lt_of_frames hfr)
  refine ⟨(T.setVm vm').setFrames (.throwing q :: below), ?_, .threw q, X'.here.running, hend, Or.inr ⟨q, rfl, E, ce, locs, hx _ hT (X'.ends _).1.alike, hcell9, hv, hcl, (X'.ends _).1, (X'.ends _).2.mono hc hs, hf⟩⟩
  rw [X.pushThrowing_eq]
  exact st
theorem vx_lt {D : va_G} {cl : List vw_C} {ws : va_W} {H1 : Heap} (h : va_P D cl ws H1) {k : Nat} {q : Nat × va_E} (hk : ws[k]? = some q) : q.1 < H1.size := (h k q hk).lt
end VXS
section VXH
section
variable {l : Launch} {R : Room} {p : Program} {e : Env} {below : List Frame} {s : State} {sargs : Array Value} {y : MethodName} {len W9 : Nat}
theorem vx_backW {ws : List Cond} {rm : Room} {Pc : Array Value → State → Prop} {Qc : Array Value → State → Outcome → State → Prop} {XC : String → State → State → Prop} {mc ms : Nat} {free : Addr → Prop} {bytes : ByteArray} {maxL : Nat} {ret : Option FieldType} {hh : List (Nat × Nat × Nat × Nat)}
    (hM : vx_Met l y ws rm Pc Qc XC mc ms free) (hblind : FrameBlind Pc) (hrc : rm.cells = mc) (hrs : rm.slots = ms)
    (hframes : rm.frames + 1 ≤ R.frames) (hlocals : W9 + (maxL + 11) + rm.locals ≤ R.locals)
    (hws : ∀ w ∈ ws, ∀ a' U, s.WarmedH U.vm → w.before a' U = true) (hcode : Cond.codeWith y bytes maxL ret hh ∈ ws) (hinit : ∀ a' U, s.WarmedH U.vm → (Cond.initialized y.cls).before a' U = true) :
    vx_Back l R p e below s sargs y len W9 (PreOf R mc ms Pc) (PostOf Qc mc ms free) (vx_Post XC mc ms free) := by
  intro m meth c A g ig mk a X hg hsize hdg hW hn hp
  have h1 : (headSpec ws rm).pre.before a A.U = true := atoms_intro fun w hw => hws w hw _ _ X.warmed
  have h2 : (Cond.codeWith y bytes maxL ret hh).before a A.U = true := hws _ hcode _ _ X.warmed
  have h3 : (Cond.initialized y.cls).before a A.U = true := hinit _ _ X.warmed
  have h4 : A.cells + (headSpec ws rm).room.cells ≤ R.cells := by rw [show (headSpec ws rm).room.cells = mc from hrc]; exact hp.1
  have h5 : A.slots + (headSpec ws rm).room.slots ≤ R.slots := by rw [show (headSpec ws rm).room.slots = ms from hrs]; exact hp.2.1
  have hPc : Pc a (A.U.calling g mk a) := hblind _ _ _ _ hp.2.2
  obtain ⟨U, Ls, c0, s0⟩ := A
  dsimp only [Pt.U, Pt.locs, Pt.cells, Pt.slots] at h1 h2 h3 h4 h5 X hn hPc ⊢
  obtain ⟨m9, methY, cY, hn9, hmY, hcY, -, hlY, -⟩ := Cond.codeWith_spec h2
  cases Option.some.inj (hn9.symm.trans hn)
  obtain ⟨kY, hkY, -⟩ := className_of_methodNamed hn
  have hinitY : kY.init = .initialized := Cond.initialized_spec (findClass_of_methodNamed hn) hkY h3
  have h : At U g.method c below := by rw [hg]; exact X.here
  have hlocals9 : W9 + (maxL + 11) + (headSpec ws rm).room.locals ≤ R.locals := hlocals
  have happ : (headSpec ws rm).appliesLoose y e.platform (U.calling g mk a) = true :=
    Spec.appliesLoose_calling (g := g) h hdg hn hkY hinitY
      (X.room_calling (g := g) (R' := (headSpec ws rm).room) hsize hmY hcY hframes (by rw [hlY]; omega) h4 h5) h1
  obtain ⟨mid, hmid⟩ := h.above
  have hfr : (U.setTop g).frames = (.java g :: mid) ++ below := by rw [State.frames_setTop' g h.top, hmid]; rfl
  obtain ⟨o, s₂, hsteps, -, hend, hq⟩ := Steps.callFree hM p X.admits X.cas X.clock (acts := []) hfr happ hPc trivial
  have hq' : vx_Q Qc XC mc ms free a (U.calling g mk a) o s₂ := hq
  rw [State.frames_setTop' g h.top] at hend
  obtain ⟨g₀, hg0⟩ := Option.isSome_iff_exists.mp h.top
  obtain ⟨r, hr⟩ := State.topJava?_eq_some.mp hg0
  have hr' : (({ U with heap := s₂.heap, slotsUsed := s₂.slotsUsed } : State).setVm s₂.vm).frames = .java g₀ :: r := hr
  rcases hq' with ⟨hqc, L, hfe, hL⟩ | ⟨q, rfl, E, ce, L, hx, hce, hcv, hcl, hW₂, hsm, hL⟩
  · obtain ⟨⟨v, rfl⟩, hW₂, e2, q2, q3, q4, q5, q6⟩ := id hfe
    have e3 : s₂ = ({ (U.calling g mk a).setFrames s₂.frames with heap := s₂.heap, slotsUsed := s₂.slotsUsed } : State).setVm s₂.vm := by
      have : s₂ = ({ s₂ with vm := (U.calling g mk a).vm } : State).setVm s₂.vm := rfl
      rw [e2] at this
      exact this
    obtain ⟨c₂, i₂, len₂, hc₂, hd₂, hf₂⟩ := hend
    have hW' : U.WarmedH s₂.vm := hW₂
    have hcc : c₂ = c := by
      have h1 : s₂.code? g.method = U.code? g.method := by
        rw [State.code?_eq, State.code?_eq, hW'.alike.method?]
      exact Option.some.inj (hc₂.symm.trans (h1.trans h.code))
    subst hcc
    have hlen : len₂ = len := by rw [hdg] at hd₂; cases hd₂; rfl
    subst hlen
    have hs₂ : s₂ = (({ U with heap := s₂.heap, slotsUsed := s₂.slotsUsed } : State).setVm s₂.vm).setTop { g with pc := g.pc + len₂, stack := v.toList ++ g.stack } := by
      refine e3.trans ?_
      rw [hf₂, State.calling_eq h.top, State.setFrames_setFrames, State.setTop_of_frames _ hr', hr]
      rfl
    have hsame : U.sameButNew ({ U with heap := s₂.heap, slotsUsed := s₂.slotsUsed } : State) L mc ms := by
      refine ⟨?_, q2, q3, q4, q5, q6⟩
      obtain ⟨t, ht, -⟩ := State.frames_cons hr
      show ({ U with heap := s₂.heap, slotsUsed := s₂.slotsUsed } : State) = { U.setFrames U.frames with heap := s₂.heap, slotsUsed := s₂.slotsUsed }
      rw [State.setFrames_self ht]
    subst hg
    refine Or.inl ⟨v, ⟨(({ U with heap := s₂.heap, slotsUsed := s₂.slotsUsed } : State).setVm s₂.vm), Ls ++ L, c0 + mc, s0 + ms⟩,
      ⟨X.admits, X.cas, X.clock, X.frames, X.room, X.hears, X.method, X.code, (X.here.setHeapUsed s₂.heap s₂.slotsUsed).setVm hW'.alike, X.tail, State.WarmedH.trans X.warmed hW', X.limits, X.bytes, X.same.trans (hsame.setVm s.vm)⟩,
      ⟨g, mk, s₂, L, rfl, rfl, hqc, rfl, hL, rfl, rfl⟩, ?_⟩
    show Steps p.tables e below _ ((({ U with heap := s₂.heap, slotsUsed := s₂.slotsUsed } : State).setVm s₂.vm).setTop { g with pc := g.pc + len₂, stack := v.toList ++ g.stack })
    rw [← hs₂]
    exact hsteps
  · obtain ⟨e2, q2, q3, q4, q5, q6⟩ := id hsm
    have e3 : s₂ = ({ (U.calling g mk a).setFrames s₂.frames with heap := s₂.heap, slotsUsed := s₂.slotsUsed } : State).setVm s₂.vm := by
      have : s₂ = ({ s₂ with vm := (U.calling g mk a).vm } : State).setVm s₂.vm := rfl
      rw [e2] at this
      exact this
    have hf₂ : s₂.frames = .throwing q :: .java g :: U.frames.tail := hend
    have hW' : U.WarmedH s₂.vm := hW₂
    have hs₂ : s₂ = ((({ U with heap := s₂.heap, slotsUsed := s₂.slotsUsed } : State).setVm s₂.vm).setTop g).pushFrame (.throwing q) := by
      refine e3.trans ?_
      rw [hf₂, State.calling_eq h.top, State.setFrames_setFrames, State.pushFrame, State.frames_setTop _ hr', State.setTop_of_frames _ hr', State.setFrames_setFrames, hr]
      rfl
    have hsame : U.sameButNew ({ U with heap := s₂.heap, slotsUsed := s₂.slotsUsed } : State) L mc ms := by
      refine ⟨?_, q2, q3, q4, q5, q6⟩
      obtain ⟨t, ht, -⟩ := State.frames_cons hr
      show ({ U with heap := s₂.heap, slotsUsed := s₂.slotsUsed } : State) = { U.setFrames U.frames with heap := s₂.heap, slotsUsed := s₂.slotsUsed }
      rw [State.setFrames_self ht]
    subst hg
    refine Or.inr ⟨q, ⟨(({ U with heap := s₂.heap, slotsUsed := s₂.slotsUsed } : State).setVm s₂.vm), Ls ++ L, c0 + mc, s0 + ms⟩,
      ⟨X.admits, X.cas, X.clock, X.frames, X.room, X.hears, X.method, X.code, (X.here.setHeapUsed s₂.heap s₂.slotsUsed).setVm hW'.alike, X.tail, State.WarmedH.trans X.warmed hW', X.limits, X.bytes, X.same.trans (hsame.setVm s.vm)⟩,
      ⟨g, mk, s₂, L, E, ce, rfl, rfl, hx, hce, hcv, hcl, rfl, hL, rfl, rfl⟩, ?_⟩
    show Steps p.tables e below _ (((({ U with heap := s₂.heap, slotsUsed := s₂.slotsUsed } : State).setVm s₂.vm).setTop g).pushFrame (.throwing q))
    rw [← hs₂]
    exact hsteps
end
variable {p : Program} {l : Launch} {e : Env} {R : Room} {s : State} {m : MethodId} {args : Array Value} {below : List Frame} {meth : Method} {c : Code} {T : State} {H : Heap} {locs : List Loc} {cells slots : Nat}
theorem vx_callVX (X : Stand p l e R s m args below meth c T locs cells slots) (hexec : p.tables.exec = Jvm.exec) {own C : String} {index : Nat} {y : MethodName} {bytes : ByteArray} {maxL : Nat} {ret : Option FieldType} {hh : List (Nat × Nat × Nat × Nat)}
    (hown : s.vm.findClass own = some m.cls) (hlink : (Cond.methodLink own index y).before args s = true) (hinst : (Cond.instanceMethod y).before args s = true) (hsel : (Cond.selects C y y).before args s = true)
    (hcode : (Cond.codeWith y bytes maxL ret hh).before args s = true) (hy : y.cls ≠ "java/lang/invoke/MethodHandle" ∧ y.cls ≠ "java/lang/invoke/VarHandle")
    {W9 : Nat} {Pre : Pt → Array Value → Prop} {Post : Pt → Array Value → Option Value → Pt → Prop} {PostX : Pt → Array Value → Addr → Pt → Prop} (hK : vx_Back l R p e below s args y 3 W9 Pre Post PostX)
    {b : Addr} {cellB : Cell} (hcell : T.heap[b]? = some cellB) (hobj : cellB.vm.isStatics = false) (hcls : s.vm.findClass C = some cellB.cls)
    {g : JFrame} (hg : g.method = m) (hsize : g.locals.size = c.maxLocals) {argsL rest : List Value} (hlen : ∀ sig, parseMethodDescriptor y.desc = some sig → argsL.length = sig.parameters.length)
    (hstack : g.stack = argsL.reverse ++ .ref b :: rest) (hW : 2 * g.monitorRoom + (rest.map fun v => v.category).sum ≤ W9) (hdg : decode c.code g.pc = .ok (.invokevirtual index, 3))
    (hpre : ∀ vm₁, s.WarmedH vm₁ → Pre ⟨T.setVm vm₁, locs, cells, slots⟩ (Value.ref b :: argsL).toArray) :
    (∃ (v : Option Value) (vm₁ : Vm) (B : Pt), s.WarmedH vm₁ ∧ Stand p l e R s m args below meth c B.U B.locs B.cells B.slots ∧ Post ⟨T.setVm vm₁, locs, cells, slots⟩ (Value.ref b :: argsL).toArray v B ∧
      ∀ target, Steps p.tables e below (B.U.setTop { g with pc := g.pc + 3, stack := v.toList ++ rest }) target → Steps p.tables e below (T.setTop g) target) ∨
    (∃ (q : Addr) (vm₁ : Vm) (B : Pt), s.WarmedH vm₁ ∧ Stand p l e R s m args below meth c B.U B.locs B.cells B.slots ∧ PostX ⟨T.setVm vm₁, locs, cells, slots⟩ (Value.ref b :: argsL).toArray q B ∧
      Steps p.tables e below (T.setTop g) ((B.U.setTop { g with stack := rest }).pushFrame (.throwing q))) := by
  obtain ⟨mk, methM, hnamed, hmethM, hstM, habM⟩ := Cond.instanceMethod_spec hinst
  obtain ⟨m8, methM', cM, hn8, hmethM', -, -, -, -, -, -, hsigM⟩ := Cond.codeWith_spec hcode
  cases Option.some.inj (hn8.symm.trans hnamed)
  cases hmethM.symm.trans hmethM'
  obtain ⟨c2, r2, m2, q1, q2, q3, q4, kP, hkP, hkPi⟩ := Cond.selects_spec hsel
  cases hcls.symm.trans q1
  cases (State.methodFound?_of_named hnamed hy).symm.trans q2
  cases hnamed.symm.trans q3
  have hselP : selectMethod e.platform s.vm cellB.cls mk = .method mk := by rw [Launch.admits_selectMethod X.admits]; exact q4
  obtain ⟨vm₁, X₁, hstep₁⟩ := X.invokevirtual hexec hown hlink hnamed hmethM hstM hkP hkPi hy (a := b) (cell := cellB) hcell
    (fun z h => by rw [h] at hobj; cases hobj) hselP hmethM habM hkP hkPi (g := g) hg (argsL := argsL) (rest := rest) (hlen _ hsigM) hstack hdg
  rcases hK m meth c ⟨T.setVm vm₁, locs, cells, slots⟩ { g with stack := rest } (.invokevirtual index) mk (Value.ref b :: argsL).toArray X₁ hg hsize hdg hW (X₁.named hnamed) (hpre vm₁ X₁.warmed) with ⟨v, B, X', hpost, hsteps⟩ | ⟨q, B, X', hpost, hsteps⟩
  · exact Or.inl ⟨v, vm₁, B, X₁.warmed, X', hpost, fun target h => hstep₁ _ fun acts => by rw [doInvoke_state]; exact hsteps.trans h⟩
  · exact Or.inr ⟨q, vm₁, B, X₁.warmed, X', hpost, hstep₁ _ fun acts => by rw [doInvoke_state]; exact hsteps⟩
theorem vx_callSX (X : Stand p l e R s m args below meth c T locs cells slots) (hexec : p.tables.exec = Jvm.exec) {own : String} {index : Nat} {y : MethodName} {bytes : ByteArray} {maxL : Nat} {ret : Option FieldType} {hh : List (Nat × Nat × Nat × Nat)}
    (hown : s.vm.findClass own = some m.cls) (hlink : (Cond.methodLink own index y).before args s = true) (hstat : (Cond.static y).before args s = true) (hinit : (Cond.initialized y.cls).before args s = true)
    (hcode : (Cond.codeWith y bytes maxL ret hh).before args s = true) (hy : y.cls ≠ "java/lang/invoke/MethodHandle" ∧ y.cls ≠ "java/lang/invoke/VarHandle")
    {W9 : Nat} {Pre : Pt → Array Value → Prop} {Post : Pt → Array Value → Option Value → Pt → Prop} {PostX : Pt → Array Value → Addr → Pt → Prop} (hK : vx_Back l R p e below s args y 3 W9 Pre Post PostX)
    {g : JFrame} (hg : g.method = m) (hsize : g.locals.size = c.maxLocals) {argsL rest : List Value} (hlen : ∀ sig, parseMethodDescriptor y.desc = some sig → argsL.length = sig.parameters.length)
    (hstack : g.stack = argsL.reverse ++ rest) (hW : 2 * g.monitorRoom + (rest.map fun v => v.category).sum ≤ W9) (hdg : decode c.code g.pc = .ok (.invokestatic index, 3))
    (hpre : ∀ vm₁, s.WarmedH vm₁ → Pre ⟨T.setVm vm₁, locs, cells, slots⟩ argsL.toArray) :
    (∃ (v : Option Value) (vm₁ : Vm) (B : Pt), s.WarmedH vm₁ ∧ Stand p l e R s m args below meth c B.U B.locs B.cells B.slots ∧ Post ⟨T.setVm vm₁, locs, cells, slots⟩ argsL.toArray v B ∧
      ∀ target, Steps p.tables e below (B.U.setTop { g with pc := g.pc + 3, stack := v.toList ++ rest }) target → Steps p.tables e below (T.setTop g) target) ∨
    (∃ (q : Addr) (vm₁ : Vm) (B : Pt), s.WarmedH vm₁ ∧ Stand p l e R s m args below meth c B.U B.locs B.cells B.slots ∧ PostX ⟨T.setVm vm₁, locs, cells, slots⟩ argsL.toArray q B ∧
      Steps p.tables e below (T.setTop g) ((B.U.setTop { g with stack := rest }).pushFrame (.throwing q))) := by
  obtain ⟨mk, methM, cM, hnamed, hmethM, -, -, -, -, -, -, hsigM⟩ := Cond.codeWith_spec hcode
  have hstatic : methM.isStatic = true := Cond.static_spec hnamed hmethM hstat
  obtain ⟨kP, hkP, -⟩ := className_of_methodNamed hnamed
  have hinitP : kP.init = .initialized := Cond.initialized_spec (findClass_of_methodNamed hnamed) hkP hinit
  obtain ⟨vm₁, X₁, hstep₁⟩ := X.invokestatic hexec hown hlink hnamed hmethM hstatic hkP hinitP hy (g := g) hg (argsL := argsL) (rest := rest) (hlen _ hsigM) hstack hdg
  rcases hK m meth c ⟨T.setVm vm₁, locs, cells, slots⟩ { g with stack := rest } (.invokestatic index) mk argsL.toArray X₁ hg hsize hdg hW (X₁.named hnamed) (hpre vm₁ X₁.warmed) with ⟨v, B, X', hpost, hsteps⟩ | ⟨q, B, X', hpost, hsteps⟩
  · exact Or.inl ⟨v, vm₁, B, X₁.warmed, X', hpost, fun target h => hstep₁ _ fun acts => by rw [doInvoke_state]; exact hsteps.trans h⟩
  · exact Or.inr ⟨q, vm₁, B, X₁.warmed, X', hpost, hstep₁ _ fun acts => by rw [doInvoke_state]; exact hsteps⟩
theorem vx_callVW (X : Stand p l e R s m args below meth c T locs cells slots) (hexec : p.tables.exec = Jvm.exec) {own C : String} {index : Nat} {y : MethodName} {bytes : ByteArray} {maxL : Nat} {ret : Option FieldType} {hh : List (Nat × Nat × Nat × Nat)}
    (hown : s.vm.findClass own = some m.cls) (hlink : (Cond.methodLink own index y).before args s = true) (hinst : (Cond.instanceMethod y).before args s = true) (hsel : (Cond.selects C y y).before args s = true)
    (hcode : (Cond.codeWith y bytes maxL ret hh).before args s = true) (hy : y.cls ≠ "java/lang/invoke/MethodHandle" ∧ y.cls ≠ "java/lang/invoke/VarHandle")
    {W9 : Nat} {Pre : Pt → Array Value → Prop} {Post : Pt → Array Value → Option Value → Pt → Prop} (hK : Back l R p e below s args y 3 W9 Pre Post)
    {b : Addr} {cellB : Cell} (hcell : T.heap[b]? = some cellB) (hobj : cellB.vm.isStatics = false) (hcls : s.vm.findClass C = some cellB.cls)
    {g : JFrame} (hg : g.method = m) (hsize : g.locals.size = c.maxLocals) {argsL rest : List Value} (hlen : ∀ sig, parseMethodDescriptor y.desc = some sig → argsL.length = sig.parameters.length)
    (hstack : g.stack = argsL.reverse ++ .ref b :: rest) (hW : 2 * g.monitorRoom + (rest.map fun v => v.category).sum ≤ W9) (hdg : decode c.code g.pc = .ok (.invokevirtual index, 3))
    (hpre : ∀ vm₁, s.WarmedH vm₁ → Pre ⟨T.setVm vm₁, locs, cells, slots⟩ (Value.ref b :: argsL).toArray) :
    ∃ (v : Option Value) (vm₁ : Vm) (B : Pt), s.WarmedH vm₁ ∧ Stand p l e R s m args below meth c B.U B.locs B.cells B.slots ∧ Post ⟨T.setVm vm₁, locs, cells, slots⟩ (Value.ref b :: argsL).toArray v B ∧
      ∀ target, Steps p.tables e below (B.U.setTop { g with pc := g.pc + 3, stack := v.toList ++ rest }) target → Steps p.tables e below (T.setTop g) target := by
  obtain ⟨mk, methM, hnamed, hmethM, hstM, habM⟩ := Cond.instanceMethod_spec hinst
  obtain ⟨m8, methM', cM, hn8, hmethM', -, -, -, -, -, -, hsigM⟩ := Cond.codeWith_spec hcode
  cases Option.some.inj (hn8.symm.trans hnamed)
  cases hmethM.symm.trans hmethM'
  obtain ⟨c2, r2, m2, q1, q2, q3, q4, kP, hkP, hkPi⟩ := Cond.selects_spec hsel
  cases hcls.symm.trans q1
  cases (State.methodFound?_of_named hnamed hy).symm.trans q2
  cases hnamed.symm.trans q3
  have hselP : selectMethod e.platform s.vm cellB.cls mk = .method mk := by rw [Launch.admits_selectMethod X.admits]; exact q4
  obtain ⟨vm₁, X₁, hstep₁⟩ := X.invokevirtual hexec hown hlink hnamed hmethM hstM hkP hkPi hy (a := b) (cell := cellB) hcell
    (fun z h => by rw [h] at hobj; cases hobj) hselP hmethM habM hkP hkPi (g := g) hg (argsL := argsL) (rest := rest) (hlen _ hsigM) hstack hdg
  obtain ⟨v, B, X', hpost, hsteps⟩ := hK m meth c ⟨T.setVm vm₁, locs, cells, slots⟩ { g with stack := rest } (.invokevirtual index) mk (Value.ref b :: argsL).toArray X₁ hg hsize hdg hW (X₁.named hnamed) (hpre vm₁ X₁.warmed)
  exact ⟨v, vm₁, B, X₁.warmed, X', hpost, fun target h => hstep₁ _ fun acts => by rw [doInvoke_state]; exact hsteps.trans h⟩
abbrev vx_CVW (R : Room) (s : State) (args : Array Value) (own C : String) (index : Nat) (y : MethodName) (bytes : ByteArray) (maxL : Nat) (ret : Option FieldType) (hh : List (Nat × Nat × Nat × Nat)) (ws : List Cond) (rm : Room) (mc ms n : Nat) : Prop :=
  (rm.cells = mc ∧ rm.slots = ms ∧ rm.frames + 1 ≤ R.frames ∧ 8 + (maxL + 11) + rm.locals ≤ R.locals ∧ (∀ w ∈ ws, ∀ (a' : Array Value) (U : State), s.WarmedH U.vm → w.before a' U = true) ∧ Cond.codeWith y bytes maxL ret hh ∈ ws) ∧
  (Cond.codeWith y bytes maxL ret hh).before args s = true ∧ (Cond.initialized y.cls).before args s = true ∧ (y.cls ≠ "java/lang/invoke/MethodHandle" ∧ y.cls ≠ "java/lang/invoke/VarHandle") ∧
  (∀ sig, parseMethodDescriptor y.desc = some sig → n = sig.parameters.length) ∧ (Cond.methodLink own index y).before args s = true ∧ (Cond.instanceMethod y).before args s = true ∧ (Cond.selects C y y).before args s = true
theorem vx_cwVW {own C : String} {index maxL mc ms : Nat} {y : MethodName} {bytes : ByteArray} {ret : Option FieldType} {hh : List (Nat × Nat × Nat × Nat)} {Ts ws ws' : List Cond} {rm : Room} (n : Nat) (ht : ∀ w ∈ Ts, w.before args s = true) (hT : GoodIn Ts (wsV own index C y ws)) (hw : ws = Cond.codeWith y bytes maxL ret hh :: ws') (hrc : rm.cells = mc) (hrs : rm.slots = ms)
    (hd : y.cls = C ∧ y.cls ≠ "java/lang/invoke/MethodHandle" ∧ y.cls ≠ "java/lang/invoke/VarHandle" ∧ (parseMethodDescriptor y.desc).map (fun d => d.parameters.length) = some n) (hR : rm.frames + 1 ≤ R.frames ∧ 8 + (maxL + 11) + rm.locals ≤ R.locals) :
    vx_CVW R s args own C index y bytes maxL ret hh ws rm mc ms n := by
  obtain ⟨hC, hd⟩ := hd
  subst hC
  have ok : ∀ w ∈ wsV own index y.cls y ws, w.before args s = true := fun w h => ht w (hT w h).1
  have hG : GoodIn Ts ws := fun w h => hT w (by unfold wsV; exact List.mem_append_right _ h)
  have hc : Cond.codeWith y bytes maxL ret hh ∈ ws := by rw [hw]; exact List.mem_cons_self
  refine ⟨⟨hrc, hrs, hR.1, hR.2, pay_in ht hG, hc⟩, ht _ (hG _ hc).1, ok _ (by simp [wsV]), ⟨hd.1, hd.2.1⟩, fun sig h => ?_, ok _ (by simp [wsV]), ok _ (by simp [wsV]), ok _ (by simp [wsV])⟩
  have h2 := hd.2.2
  rw [h] at h2
  exact (Option.some.inj h2).symm
theorem vx_runVW {y : MethodName} {bytes cc : ByteArray} {maxL nL mc ms n index : Nat} {ret : Option FieldType} {hh : List (Nat × Nat × Nat × Nat)} {ws : List Cond} {rm : Room} {Pc : Array Value → State → Prop} {Qc : Array Value → State → Outcome → State → Prop} {free : Addr → Prop} {Ts : List Cond} {own C : String} {b : Addr} {As rest : List Value} {g : JFrame}
    (S : CallFix p m c cc nL s args Ts own) (hM : Met l y ws rm Pc Qc mc ms free) (cw : vx_CVW R s args own C index y bytes maxL ret hh ws rm mc ms n) (hp : PreV s H C b Pc As)
    (hg : g.method = m) (hn : As.length = n) (hsize : g.locals.size = nL) (hstack : g.stack = As.reverse ++ .ref b :: rest) (hW : 2 * g.monitorRoom + (rest.map fun v => v.category).sum ≤ 8) (hdg : decode cc g.pc = .ok (.invokevirtual index, 3)) (hf : cells + mc ≤ R.cells ∧ slots + ms ≤ R.slots) :
    va_Run p l e R s m args below meth c H locs cells slots mc ms g rest (Qc (Value.ref b :: As).toArray) free := by
  obtain ⟨⟨hrc, hrs, hfr, hlo, hws, hcw⟩, hcode, hini, hy, hlen, hl, hin, hse⟩ := cw
  have hK : Back l R p e below s args y 3 8 (PreOf R mc ms Pc) (PostOf Qc mc ms free) := va_backW (hh := hh) (bytes := bytes) (maxL := maxL) (ret := ret) hM hp.1 hrc hrs hfr hlo hws hcw (fun a' U hW => word_at hW (Or.inl (by first | rfl | simp [Cond.onTables, Cond.keeps, Cond.steady])) hini)
  obtain ⟨hx, hb, hml, ho, -⟩ := S
  obtain ⟨-, ⟨cellB, hcB, hoB, hclB⟩, hPc⟩ := hp
  intro T hT X
  obtain ⟨v, vm₁, ⟨U', l2, c2, s2⟩, hW₁, X', ⟨g', mk, t, L, e1, e2, hq, h1, hL, h2, h3⟩, st⟩ := vx_callVW X hx (C := C) (hh := hh) (bytes := bytes) (maxL := maxL) (ret := ret) ho hl hin hse hcode hy hK (by rw [hT]; exact hcB) hoB hclB hg (hsize.trans hml.symm) (argsL := As) (rest := rest) (fun sig h => hn.trans (hlen sig h)) hstack hW (by rw [hb]; exact hdg)
    (fun vm₁ hW₁ => ⟨hf.1, hf.2, hPc (T.setVm vm₁) hT hW₁⟩)
  dsimp only [Pt.U, Pt.locs, Pt.cells, Pt.slots] at X' e1 e2 h1 h2 h3 st
  subst h1; subst h2; subst h3
  exact ⟨v, (T.setVm vm₁).calling g' mk (Value.ref b :: As).toArray, t, U', L, hT, X', hL, e1, e2, hq, st⟩
section
variable {y : MethodName} {bytes cc : ByteArray} {maxL nL mc ms n index : Nat} {ret : Option FieldType} {ws : List Cond} {rm : Room} {Pc : Array Value → State → Prop} {Qc : Array Value → State → Outcome → State → Prop} {XC : String → State → State → Prop} {free : Addr → Prop} {Ts : List Cond} {own C : String} {b : Addr} {As rest : List Value} {g : JFrame}
theorem vx_runVX {hh : List (Nat × Nat × Nat × Nat)} (S : CallFix p m c cc nL s args Ts own) (hM : vx_Met l y ws rm Pc Qc XC mc ms free) (cw : vx_CVW R s args own C index y bytes maxL ret hh ws rm mc ms n) (hp : PreV s H C b Pc As)
    (hg : g.method = m) (hn : As.length = n) (hsize : g.locals.size = nL) (hstack : g.stack = As.reverse ++ .ref b :: rest) (hW : 2 * g.monitorRoom + (rest.map fun v => v.category).sum ≤ 8) (hdg : decode cc g.pc = .ok (.invokevirtual index, 3)) (hf : cells + mc ≤ R.cells ∧ slots + ms ≤ R.slots) :
    vx_Run p l e R s m args below meth c H locs cells slots mc ms g rest (Qc (Value.ref b :: As).toArray) XC free := by
  obtain ⟨⟨hrc, hrs, hfr, hlo, hws, hcw⟩, hcode, hini, hy, hlen, hl, hin, hse⟩ := cw
  have hK : vx_Back l R p e below s args y 3 8 (PreOf R mc ms Pc) (PostOf Qc mc ms free) (vx_Post XC mc ms free) := vx_backW (hh := hh) (bytes := bytes) (maxL := maxL) (ret := ret) hM hp.1 hrc hrs hfr hlo hws hcw (fun a' U hW => word_at hW (Or.inl (by first | rfl | simp [Cond.onTables, Cond.keeps, Cond.steady])) hini)
  obtain ⟨hx, hb, hml, ho, -⟩ := S
  obtain ⟨-, ⟨cellB, hcB, hoB, hclB⟩, hPc⟩ := hp
  intro T hT X
  rcases vx_callVX X hx (C := C) (hh := hh) (bytes := bytes) (maxL := maxL) (ret := ret) ho hl hin hse hcode hy hK (by rw [hT]; exact hcB) hoB hclB hg (hsize.trans hml.symm) (argsL := As) (rest := rest) (fun sig h => hn.trans (hlen sig h)) hstack hW (by rw [hb]; exact hdg)
    (fun vm₁ hW₁ => ⟨hf.1, hf.2, hPc (T.setVm vm₁) hT hW₁⟩) with ⟨v, vm₁, ⟨U', l2, c2, s2⟩, hW₁, X', ⟨g', mk, t, L, e1, e2, hq, h1, hL, h2, h3⟩, st⟩ | ⟨q, vm₁, ⟨U', l2, c2, s2⟩, hW₁, X', ⟨g', mk, t, L, E, ce, e1, e2, hq, hce, hcv, hcl, h1, hL, h2, h3⟩, st⟩
  · dsimp only [Pt.U, Pt.locs, Pt.cells, Pt.slots] at X' e1 e2 h1 h2 h3 st
    subst h1; subst h2; subst h3
    exact Or.inl ⟨v, (T.setVm vm₁).calling g' mk (Value.ref b :: As).toArray, t, U', L, hT, X', hL, e1, e2, hq, st⟩
  · dsimp only [Pt.U, Pt.locs, Pt.cells, Pt.slots] at X' e1 e2 h1 h2 h3 st hcl
    subst h1; subst h2; subst h3
    exact Or.inr ⟨q, (T.setVm vm₁).calling g' mk (Value.ref b :: As).toArray, t, U', L, E, ce, hT, X', hL, e1, e2, hq, hce, hcv, vx_cls hW₁ hcl, st⟩
theorem vx_runSX {hh : List (Nat × Nat × Nat × Nat)} (S : CallFix p m c cc nL s args Ts own) (hM : vx_Met l y ws rm Pc Qc XC mc ms free) (cw : vx_CSW R s args own index y bytes maxL ret hh ws rm mc ms n) (hp : PreS s H Pc As)
    (hg : g.method = m) (hn : As.length = n) (hsize : g.locals.size = nL) (hstack : g.stack = As.reverse ++ rest) (hW : 2 * g.monitorRoom + (rest.map fun v => v.category).sum ≤ 8) (hdg : decode cc g.pc = .ok (.invokestatic index, 3)) (hf : cells + mc ≤ R.cells ∧ slots + ms ≤ R.slots) :
    vx_Run p l e R s m args below meth c H locs cells slots mc ms g rest (Qc As.toArray) XC free := by
  obtain ⟨⟨hrc, hrs, hfr, hlo, hws, hcw⟩, hcode, hini, hy, hlen, hl, hstt⟩ := cw
  have hK : vx_Back l R p e below s args y 3 8 (PreOf R mc ms Pc) (PostOf Qc mc ms free) (vx_Post XC mc ms free) := vx_backW (hh := hh) (bytes := bytes) (maxL := maxL) (ret := ret) hM hp.1 hrc hrs hfr hlo hws hcw (fun a' U hW => word_at hW (Or.inl (by first | rfl | simp [Cond.onTables, Cond.keeps, Cond.steady])) hini)
  obtain ⟨hx, hb, hml, ho, -⟩ := S
  intro T hT X
  rcases vx_callSX X hx (hh := hh) (bytes := bytes) (maxL := maxL) (ret := ret) ho hl hstt hini hcode hy hK hg (hsize.trans hml.symm) (argsL := As) (rest := rest) (fun sig h => hn.trans (hlen sig h)) hstack hW (by rw [hb]; exact hdg)
    (fun vm₁ hW₁ => ⟨hf.1, hf.2, hp.2 (T.setVm vm₁) hT hW₁⟩) with ⟨v, vm₁, ⟨U', l2, c2, s2⟩, hW₁, X', ⟨g', mk, t, L, e1, e2, hq, h1, hL, h2, h3⟩, st⟩ | ⟨q, vm₁, ⟨U', l2, c2, s2⟩, hW₁, X', ⟨g', mk, t, L, E, ce, e1, e2, hq, hce, hcv, hcl, h1, hL, h2, h3⟩, st⟩
  · dsimp only [Pt.U, Pt.locs, Pt.cells, Pt.slots] at X' e1 e2 h1 h2 h3 st
    subst h1; subst h2; subst h3
    exact Or.inl ⟨v, (T.setVm vm₁).calling g' mk As.toArray, t, U', L, hT, X', hL, e1, e2, hq, st⟩
  · dsimp only [Pt.U, Pt.locs, Pt.cells, Pt.slots] at X' e1 e2 h1 h2 h3 st hcl
    subst h1; subst h2; subst h3
    exact Or.inr ⟨q, (T.setVm vm₁).calling g' mk As.toArray, t, U', L, E, ce, hT, X', hL, e1, e2, hq, hce, hcv, vx_cls hW₁ hcl, st⟩
end
end VXH
theorem vx_ofWH {l : Launch} {y : MethodName} {ws ws' : List Cond} {rm : Room} {Pc : Array Value → State → Prop} {Qc : Array Value → State → Outcome → State → Prop} {XC : String → State → State → Prop} {mc ms : Nat} {free : Addr → Prop} {cc : ByteArray} {maxL : Nat} {ret : Option FieldType} {hh : List (Nat × Nat × Nat × Nat)}
    (hy : plainName y.cls = true) (hw : ws = Cond.codeWith y cc maxL ret hh :: ws')
    (body : ∀ p e s m args below meth c s₁, BodyLoose p l y (headSpec ws rm) cc maxL ret e s m args below meth c s₁ → c.maxLocals = maxL → Pc args s →
      W p l e (headSpec ws rm).room s m args below meth c s.heap [] 0 0 (vx_MQ below Qc XC args s mc ms free) (entryFrame m args maxL)) : vx_Met l y ws rm Pc Qc XC mc ms free := by
  refine MetFree.of_bodyS (code := cc) (maxLocals := maxL) (ret := ret) hy ?_ ?_
  · intro args s m h hn
    obtain ⟨m9, meth, c, hn9, h1, h2, h3, h4, -, h5, h6, -⟩ := Cond.codeWith_spec (atoms_spec (ws := ws) h _ (by rw [hw]; exact List.mem_cons_self))
    cases hn.symm.trans hn9
    exact ⟨meth, c, h1, h2, h3, h4, h5, h6⟩
  · intro p e s m args below meth c s₁ B hml hP _
    have hh0 : s₁.heap = s.heap := by rw [B.state]; rfl
    obtain ⟨t, a1, o, b1, b2, b3⟩ := body p e s m args below meth c s₁ B hml hP s₁ hh0 (Stand.of_body B)
    exact ⟨t, o, a1, b1, b2, b3⟩
end
section
def RX0 : String := "ScrapYard$ChargeSearch"
def TX0 : u_T := fun k => match k with
  | 0 => ("ScrapYard$ChargeSearch", "chosen", "[I", true)
  | 1 => ("ScrapYard$ChargeSearch", "tried", "[I", true)
  | 2 => ("ScrapYard$ChargeSearch", "most", "[I", true)
  | 3 => ("ScrapYard$ChargeSearch", "given", "[[I", true)
  | 4 => ("ScrapYard$ChargeSearch", "least", "[[I", true)
  | 5 => ("ScrapYard$ChargeSearch", "limits", "[I", true)
  | _ => ("ScrapYard$ChargeSearch", "sums", "[I", true)
def tyX0 : Nat → FieldType := fun k => match k with
  | 0 => .array .int
  | 1 => .array .int
  | 2 => .array .int
  | 3 => .array (.array .int)
  | 4 => .array (.array .int)
  | 5 => .array .int
  | _ => .array .int
theorem nmX0 : ∀ a, a < 7 → ∀ b, b < 7 → a ≠ b → (TX0 a).2.1 ≠ (TX0 b).2.1 := by decide +kernel
theorem tyX0_ok : ∀ k, k < 7 → parseFieldDescriptor (TX0 k).2.2.1 = some (tyX0 k) := by decide +kernel
abbrev cX0_init : ByteArray := prog_2_method_1_code
def yX0_init : MethodName := ⟨RX0, "<init>", "()V"⟩
abbrev cX0_leastCost : ByteArray := prog_2_method_2_code
def yX0_leastCost : MethodName := ⟨RX0, "leastCost", "([LScrapYard$Heap;LScrapYard$Spans;I)I"⟩
abbrev cX0_at : ByteArray := prog_2_method_3_code
def yX0_at : MethodName := ⟨RX0, "at", "(II)I"⟩
abbrev cX0_weigh : ByteArray := prog_2_method_4_code
def yX0_weigh : MethodName := ⟨RX0, "weigh", "(ILScrapYard$Heap;I)V"⟩
abbrev cX0_addTon : ByteArray := prog_2_method_5_code
def yX0_addTon : MethodName := ⟨RX0, "addTon", "(ILScrapYard$Layer;)V"⟩
abbrev cX0_boundSum : ByteArray := prog_2_method_6_code
def yX0_boundSum : MethodName := ⟨RX0, "boundSum", "(II)V"⟩
abbrev cX0_tryFrom : ByteArray := prog_2_method_7_code
def yX0_tryFrom : MethodName := ⟨RX0, "tryFrom", "(II)V"⟩
abbrev cX0_hasHope : ByteArray := prog_2_method_8_code
def yX0_hasHope : MethodName := ⟨RX0, "hasHope", "(II)Z"⟩
abbrev cX0_addGiven : ByteArray := prog_2_method_9_code
def yX0_addGiven : MethodName := ⟨RX0, "addGiven", "(II)V"⟩
abbrev cX0_keep : ByteArray := prog_2_method_10_code
def yX0_keep : MethodName := ⟨RX0, "keep", "()V"⟩
def RX1 : String := "ScrapYard$Contract"
def TX1 : u_T := fun k => match k with
  | 0 => ("ScrapYard$Contract", "number", "I", true)
  | 1 => ("ScrapYard$Contract", "seller", "LScrapYard$Seller;", true)
  | 2 => ("ScrapYard$Contract", "day", "I", true)
  | 3 => ("ScrapYard$Contract", "grades", "Ljava/util/ArrayList;", true)
  | _ => ("ScrapYard$Contract", "elsePay", "I", false)
def tyX1 : Nat → FieldType := fun k => match k with
  | 0 => .int
  | 1 => .object "ScrapYard$Seller"
  | 2 => .int
  | 3 => .object "java/util/ArrayList"
  | _ => .int
theorem nmX1 : ∀ a, a < 5 → ∀ b, b < 5 → a ≠ b → (TX1 a).2.1 ≠ (TX1 b).2.1 := by decide +kernel
theorem tyX1_ok : ∀ k, k < 5 → parseFieldDescriptor (TX1 k).2.2.1 = some (tyX1 k) := by decide +kernel
abbrev cX1_init : ByteArray := prog_3_method_1_code
def yX1_init : MethodName := ⟨RX1, "<init>", "(ILScrapYard$Seller;I)V"⟩
abbrev cX1_gradeOf : ByteArray := prog_3_method_2_code
def yX1_gradeOf : MethodName := ⟨RX1, "gradeOf", "(LScrapYard$Spans;)I"⟩
abbrev cX1_payOf : ByteArray := prog_3_method_3_code
def yX1_payOf : MethodName := ⟨RX1, "payOf", "(I)I"⟩
def RX2 : String := "ScrapYard$ContractReader"
def TX2 : u_T := fun k => match k with
  | 0 => ("ScrapYard$ContractReader", "text", "Ljava/lang/String;", true)
  | 1 => ("ScrapYard$ContractReader", "contract", "LScrapYard$Contract;", true)
  | 2 => ("ScrapYard$ContractReader", "at", "I", false)
  | 3 => ("ScrapYard$ContractReader", "place", "I", false)
  | _ => ("ScrapYard$ContractReader", "number", "I", false)
def tyX2 : Nat → FieldType := fun k => match k with
  | 0 => .object "java/lang/String"
  | 1 => .object "ScrapYard$Contract"
  | 2 => .int
  | 3 => .int
  | _ => .int
theorem nmX2 : ∀ a, a < 5 → ∀ b, b < 5 → a ≠ b → (TX2 a).2.1 ≠ (TX2 b).2.1 := by decide +kernel
theorem tyX2_ok : ∀ k, k < 5 → parseFieldDescriptor (TX2 k).2.2.1 = some (tyX2 k) := by decide +kernel
abbrev cX2_init : ByteArray := prog_4_method_1_code
def yX2_init : MethodName := ⟨RX2, "<init>", "(Ljava/lang/String;LScrapYard$Contract;)V"⟩
abbrev cX2_readsAll : ByteArray := prog_4_method_2_code
def yX2_readsAll : MethodName := ⟨RX2, "readsAll", "()Z"⟩
abbrev cX2_readsGrade : ByteArray := prog_4_method_3_code
def yX2_readsGrade : MethodName := ⟨RX2, "readsGrade", "()Z"⟩
abbrev cX2_readsTest : ByteArray := prog_4_method_4_code
def yX2_readsTest : MethodName := ⟨RX2, "readsTest", "(LScrapYard$Grade;)Z"⟩
abbrev cX2_readsPay : ByteArray := prog_4_method_5_code
def yX2_readsPay : MethodName := ⟨RX2, "readsPay", "()Z"⟩
abbrev cX2_skipBlanks : ByteArray := prog_4_method_6_code
def yX2_skipBlanks : MethodName := ⟨RX2, "skipBlanks", "()V"⟩
abbrev cX2_nextWord : ByteArray := prog_4_method_7_code
def yX2_nextWord : MethodName := ⟨RX2, "nextWord", "()Ljava/lang/String;"⟩
abbrev cX2_takesWord : ByteArray := prog_4_method_8_code
def yX2_takesWord : MethodName := ⟨RX2, "takesWord", "(Ljava/lang/String;)Z"⟩
abbrev cX2_takenMetal : ByteArray := prog_4_method_9_code
def yX2_takenMetal : MethodName := ⟨RX2, "takenMetal", "()I"⟩
abbrev cX2_metalOf : ByteArray := prog_4_method_10_code
def yX2_metalOf : MethodName := ⟨RX2, "metalOf", "(Ljava/lang/String;)I"⟩
abbrev cX2_takesSign : ByteArray := prog_4_method_11_code
def yX2_takesSign : MethodName := ⟨RX2, "takesSign", "(C)Z"⟩
abbrev cX2_takesNumber : ByteArray := prog_4_method_12_code
def yX2_takesNumber : MethodName := ⟨RX2, "takesNumber", "()Z"⟩
abbrev cX2_isBetween : ByteArray := prog_4_method_13_code
def yX2_isBetween : MethodName := ⟨RX2, "isBetween", "(CCC)Z"⟩
def RX3 : String := "ScrapYard$Grade"
def TX3 : u_T := fun k => match k with
  | 0 => ("ScrapYard$Grade", "below", "[I", true)
  | 1 => ("ScrapYard$Grade", "above", "[I", true)
  | _ => ("ScrapYard$Grade", "pay", "I", false)
def tyX3 : Nat → FieldType := fun k => match k with
  | 0 => .array .int
  | 1 => .array .int
  | _ => .int
theorem nmX3 : ∀ a, a < 3 → ∀ b, b < 3 → a ≠ b → (TX3 a).2.1 ≠ (TX3 b).2.1 := by decide +kernel
theorem tyX3_ok : ∀ k, k < 3 → parseFieldDescriptor (TX3 k).2.2.1 = some (tyX3 k) := by decide +kernel
abbrev cX3_init : ByteArray := prog_5_method_1_code
def yX3_init : MethodName := ⟨RX3, "<init>", "()V"⟩
abbrev cX3_addTest : ByteArray := prog_5_method_2_code
def yX3_addTest : MethodName := ⟨RX3, "addTest", "(IZI)V"⟩
abbrev cX3_isSure : ByteArray := prog_5_method_3_code
def yX3_isSure : MethodName := ⟨RX3, "isSure", "(LScrapYard$Spans;)Z"⟩
def RX4 : String := "ScrapYard$Heap"
def TX4 : u_T := fun k => match k with
  | _ => ("ScrapYard$Heap", "layers", "Ljava/util/ArrayList;", true)
def tyX4 : Nat → FieldType := fun k => match k with
  | _ => .object "java/util/ArrayList"
theorem nmX4 : ∀ a, a < 1 → ∀ b, b < 1 → a ≠ b → (TX4 a).2.1 ≠ (TX4 b).2.1 := by decide +kernel
theorem tyX4_ok : ∀ k, k < 1 → parseFieldDescriptor (TX4 k).2.2.1 = some (tyX4 k) := by decide +kernel
abbrev cX4_init : ByteArray := prog_6_method_1_code
def yX4_init : MethodName := ⟨RX4, "<init>", "()V"⟩
abbrev cX4_fromTop : ByteArray := prog_6_method_2_code
def yX4_fromTop : MethodName := ⟨RX4, "fromTop", "(I)LScrapYard$Layer;"⟩
abbrev cX4_splitsFor : ByteArray := prog_6_method_3_code
def yX4_splitsFor : MethodName := ⟨RX4, "splitsFor", "(I)Z"⟩
abbrev cX4_giveTo : ByteArray := prog_6_method_4_code
def yX4_giveTo : MethodName := ⟨RX4, "giveTo", "(Ljava/util/ArrayList;I)V"⟩
abbrev cX4_becomeOneLayer : ByteArray := prog_6_method_5_code
def yX4_becomeOneLayer : MethodName := ⟨RX4, "becomeOneLayer", "()V"⟩
abbrev cX4_narrowLayersOf : ByteArray := prog_6_method_6_code
def yX4_narrowLayersOf : MethodName := ⟨RX4, "narrowLayersOf", "(LScrapYard$Load;III)V"⟩
def RX5 : String := "ScrapYard$Kind"
def TX5 : u_T := fun k => match k with
  | 0 => ("ScrapYard$Kind", "number", "I", true)
  | _ => ("ScrapYard$Kind", "spans", "LScrapYard$Spans;", true)
def tyX5 : Nat → FieldType := fun k => match k with
  | 0 => .int
  | _ => .object "ScrapYard$Spans"
theorem nmX5 : ∀ a, a < 2 → ∀ b, b < 2 → a ≠ b → (TX5 a).2.1 ≠ (TX5 b).2.1 := by decide +kernel
theorem tyX5_ok : ∀ k, k < 2 → parseFieldDescriptor (TX5 k).2.2.1 = some (tyX5 k) := by decide +kernel
abbrev cX5_init : ByteArray := prog_7_method_1_code
def yX5_init : MethodName := ⟨RX5, "<init>", "(I)V"⟩
def RX6 : String := "ScrapYard$Layer"
def TX6 : u_T := fun k => match k with
  | 0 => ("ScrapYard$Layer", "tons", "I", false)
  | 1 => ("ScrapYard$Layer", "load", "LScrapYard$Load;", true)
  | 2 => ("ScrapYard$Layer", "cost", "I", true)
  | _ => ("ScrapYard$Layer", "spans", "LScrapYard$Spans;", true)
def tyX6 : Nat → FieldType := fun k => match k with
  | 0 => .int
  | 1 => .object "ScrapYard$Load"
  | 2 => .int
  | _ => .object "ScrapYard$Spans"
theorem nmX6 : ∀ a, a < 4 → ∀ b, b < 4 → a ≠ b → (TX6 a).2.1 ≠ (TX6 b).2.1 := by decide +kernel
theorem tyX6_ok : ∀ k, k < 4 → parseFieldDescriptor (TX6 k).2.2.1 = some (tyX6 k) := by decide +kernel
abbrev cX6_init : ByteArray := prog_8_method_1_code
def yX6_init : MethodName := ⟨RX6, "<init>", "(ILScrapYard$Load;ILScrapYard$Spans;)V"⟩
abbrev cX6_loadNumber : ByteArray := prog_8_method_2_code
def yX6_loadNumber : MethodName := ⟨RX6, "loadNumber", "()I"⟩
abbrev cX6_splitOff : ByteArray := prog_8_method_3_code
def yX6_splitOff : MethodName := ⟨RX6, "splitOff", "(I)LScrapYard$Layer;"⟩
def RX7 : String := "ScrapYard$Load"
def TX7 : u_T := fun k => match k with
  | 0 => ("ScrapYard$Load", "number", "I", true)
  | 1 => ("ScrapYard$Load", "seller", "LScrapYard$Seller;", true)
  | 2 => ("ScrapYard$Load", "kind", "LScrapYard$Kind;", true)
  | 3 => ("ScrapYard$Load", "tons", "I", true)
  | 4 => ("ScrapYard$Load", "day", "I", true)
  | 5 => ("ScrapYard$Load", "contract", "LScrapYard$Contract;", true)
  | 6 => ("ScrapYard$Load", "spans", "LScrapYard$Spans;", true)
  | 7 => ("ScrapYard$Load", "grade", "I", false)
  | _ => ("ScrapYard$Load", "pay", "I", false)
def tyX7 : Nat → FieldType := fun k => match k with
  | 0 => .int
  | 1 => .object "ScrapYard$Seller"
  | 2 => .object "ScrapYard$Kind"
  | 3 => .int
  | 4 => .int
  | 5 => .object "ScrapYard$Contract"
  | 6 => .object "ScrapYard$Spans"
  | 7 => .int
  | _ => .int
theorem nmX7 : ∀ a, a < 9 → ∀ b, b < 9 → a ≠ b → (TX7 a).2.1 ≠ (TX7 b).2.1 := by decide +kernel
theorem tyX7_ok : ∀ k, k < 9 → parseFieldDescriptor (TX7 k).2.2.1 = some (tyX7 k) := by decide +kernel
abbrev cX7_init : ByteArray := prog_9_method_1_code
def yX7_init : MethodName := ⟨RX7, "<init>", "(ILScrapYard$Seller;LScrapYard$Kind;IILScrapYard$Contract;)V"⟩
abbrev cX7_gradeAnew : ByteArray := prog_9_method_2_code
def yX7_gradeAnew : MethodName := ⟨RX7, "gradeAnew", "()V"⟩
def RX8 : String := "ScrapYard$Melt"
def TX8 : u_T := fun k => match k with
  | 0 => ("ScrapYard$Melt", "tons", "I", true)
  | _ => ("ScrapYard$Melt", "portions", "Ljava/util/ArrayList;", true)
def tyX8 : Nat → FieldType := fun k => match k with
  | 0 => .int
  | _ => .object "java/util/ArrayList"
theorem nmX8 : ∀ a, a < 2 → ∀ b, b < 2 → a ≠ b → (TX8 a).2.1 ≠ (TX8 b).2.1 := by decide +kernel
theorem tyX8_ok : ∀ k, k < 2 → parseFieldDescriptor (TX8 k).2.2.1 = some (tyX8 k) := by decide +kernel
abbrev cX8_init : ByteArray := prog_10_method_1_code
def yX8_init : MethodName := ⟨RX8, "<init>", "(I)V"⟩
abbrev cX8_narrowsAll : ByteArray := prog_10_method_2_code
def yX8_narrowsAll : MethodName := ⟨RX8, "narrowsAll", "(III)Z"⟩
abbrev cX8_atLeast : ByteArray := prog_10_method_3_code
def yX8_atLeast : MethodName := ⟨RX8, "atLeast", "(LScrapYard$Layer;III)I"⟩
abbrev cX8_atMost : ByteArray := prog_10_method_4_code
def yX8_atMost : MethodName := ⟨RX8, "atMost", "(LScrapYard$Layer;III)I"⟩
abbrev cX8_putUsualRight : ByteArray := prog_10_method_5_code
def yX8_putUsualRight : MethodName := ⟨RX8, "putUsualRight", "(I)V"⟩
def RX9 : String := "ScrapYard$Seller"
def TX9 : u_T := fun k => match k with
  | 0 => ("ScrapYard$Seller", "number", "I", true)
  | 1 => ("ScrapYard$Seller", "ownParts", "[I", true)
  | _ => ("ScrapYard$Seller", "paid", "J", false)
def tyX9 : Nat → FieldType := fun k => match k with
  | 0 => .int
  | 1 => .array .int
  | _ => .long
theorem nmX9 : ∀ a, a < 3 → ∀ b, b < 3 → a ≠ b → (TX9 a).2.1 ≠ (TX9 b).2.1 := by decide +kernel
theorem tyX9_ok : ∀ k, k < 3 → parseFieldDescriptor (TX9 k).2.2.1 = some (tyX9 k) := by decide +kernel
abbrev cX9_init : ByteArray := prog_11_method_1_code
def yX9_init : MethodName := ⟨RX9, "<init>", "(I)V"⟩
abbrev cX9_usualPart : ByteArray := prog_11_method_2_code
def yX9_usualPart : MethodName := ⟨RX9, "usualPart", "(LScrapYard$Kind;I)I"⟩
abbrev cX9_putRight : ByteArray := prog_11_method_3_code
def yX9_putRight : MethodName := ⟨RX9, "putRight", "(LScrapYard$Kind;ILScrapYard$Spans;)V"⟩
def RX10 : String := "ScrapYard$Spans"
def TX10 : u_T := fun k => match k with
  | _ => ("ScrapYard$Spans", "parts", "[I", true)
def tyX10 : Nat → FieldType := fun k => match k with
  | _ => .array .int
theorem nmX10 : ∀ a, a < 1 → ∀ b, b < 1 → a ≠ b → (TX10 a).2.1 ≠ (TX10 b).2.1 := by decide +kernel
theorem tyX10_ok : ∀ k, k < 1 → parseFieldDescriptor (TX10 k).2.2.1 = some (tyX10 k) := by decide +kernel
abbrev cX10_init : ByteArray := prog_12_method_1_code
def yX10_init : MethodName := ⟨RX10, "<init>", "()V"⟩
abbrev cX10_low : ByteArray := prog_12_method_2_code
def yX10_low : MethodName := ⟨RX10, "low", "(I)I"⟩
abbrev cX10_high : ByteArray := prog_12_method_3_code
def yX10_high : MethodName := ⟨RX10, "high", "(I)I"⟩
abbrev cX10_put : ByteArray := prog_12_method_4_code
def yX10_put : MethodName := ⟨RX10, "put", "(III)V"⟩
abbrev cX10_hasCommon : ByteArray := prog_12_method_5_code
def yX10_hasCommon : MethodName := ⟨RX10, "hasCommon", "(III)Z"⟩
abbrev cX10_narrow : ByteArray := prog_12_method_6_code
def yX10_narrow : MethodName := ⟨RX10, "narrow", "(III)V"⟩
abbrev cX10_copyFrom : ByteArray := prog_12_method_7_code
def yX10_copyFrom : MethodName := ⟨RX10, "copyFrom", "(LScrapYard$Spans;)V"⟩
abbrev cX10_partOrThrow : ByteArray := prog_12_method_8_code
def yX10_partOrThrow : MethodName := ⟨RX10, "partOrThrow", "(II)I"⟩
def RX11 : String := "ScrapYard"
def TX11 : u_T := fun k => match k with
  | 0 => ("ScrapYard", "kinds", "Ljava/util/ArrayList;", true)
  | 1 => ("ScrapYard", "sellers", "Ljava/util/ArrayList;", true)
  | 2 => ("ScrapYard", "contracts", "Ljava/util/ArrayList;", true)
  | 3 => ("ScrapYard", "loads", "Ljava/util/ArrayList;", true)
  | 4 => ("ScrapYard", "melts", "Ljava/util/ArrayList;", true)
  | 5 => ("ScrapYard", "heaps", "[LScrapYard$Heap;", true)
  | 6 => ("ScrapYard", "asked", "LScrapYard$Spans;", true)
  | 7 => ("ScrapYard", "search", "LScrapYard$ChargeSearch;", true)
  | 8 => ("ScrapYard", "tape", "Ljava/lang/StringBuilder;", true)
  | _ => ("ScrapYard", "today", "I", false)
def tyX11 : Nat → FieldType := fun k => match k with
  | 0 => .object "java/util/ArrayList"
  | 1 => .object "java/util/ArrayList"
  | 2 => .object "java/util/ArrayList"
  | 3 => .object "java/util/ArrayList"
  | 4 => .object "java/util/ArrayList"
  | 5 => .array (.object "ScrapYard$Heap")
  | 6 => .object "ScrapYard$Spans"
  | 7 => .object "ScrapYard$ChargeSearch"
  | 8 => .object "java/lang/StringBuilder"
  | _ => .int
theorem nmX11 : ∀ a, a < 10 → ∀ b, b < 10 → a ≠ b → (TX11 a).2.1 ≠ (TX11 b).2.1 := by decide +kernel
theorem tyX11_ok : ∀ k, k < 10 → parseFieldDescriptor (TX11 k).2.2.1 = some (tyX11 k) := by decide +kernel
abbrev cX11_init : ByteArray := prog_1_method_1_code
def yX11_init : MethodName := ⟨RX11, "<init>", "()V"⟩
abbrev cX11_kind : ByteArray := prog_1_method_2_code
def yX11_kind : MethodName := ⟨RX11, "kind", "()I"⟩
abbrev cX11_span : ByteArray := prog_1_method_3_code
def yX11_span : MethodName := ⟨RX11, "span", "(IIII)I"⟩
abbrev cX11_seller : ByteArray := prog_1_method_4_code
def yX11_seller : MethodName := ⟨RX11, "seller", "()I"⟩
abbrev cX11_feed : ByteArray := prog_1_method_5_code
def yX11_feed : MethodName := ⟨RX11, "feed", "(IIIII)I"⟩
abbrev cX11_contract : ByteArray := prog_1_method_6_code
def yX11_contract : MethodName := ⟨RX11, "contract", "(III)I"⟩
abbrev cX11_force : ByteArray := prog_1_method_7_code
def yX11_force : MethodName := ⟨RX11, "force", "(II)I"⟩
abbrev cX11_usual : ByteArray := prog_1_method_8_code
def yX11_usual : MethodName := ⟨RX11, "usual", "(IIII)I"⟩
abbrev cX11_load : ByteArray := prog_1_method_9_code
def yX11_load : MethodName := ⟨RX11, "load", "(IIII)I"⟩
abbrev cX11_told : ByteArray := prog_1_method_10_code
def yX11_told : MethodName := ⟨RX11, "told", "(II)I"⟩
abbrev cX11_sample : ByteArray := prog_1_method_11_code
def yX11_sample : MethodName := ⟨RX11, "sample", "(IIII)I"⟩
abbrev cX11_tons : ByteArray := prog_1_method_12_code
def yX11_tons : MethodName := ⟨RX11, "tons", "(I)I"⟩
abbrev cX11_layers : ByteArray := prog_1_method_13_code
def yX11_layers : MethodName := ⟨RX11, "layers", "(I)I"⟩
abbrev cX11_layer : ByteArray := prog_1_method_14_code
def yX11_layer : MethodName := ⟨RX11, "layer", "(III)I"⟩
abbrev cX11_move : ByteArray := prog_1_method_15_code
def yX11_move : MethodName := ⟨RX11, "move", "(III)I"⟩
abbrev cX11_mix : ByteArray := prog_1_method_16_code
def yX11_mix : MethodName := ⟨RX11, "mix", "(I)I"⟩
abbrev cX11_asked : ByteArray := prog_1_method_17_code
def yX11_asked : MethodName := ⟨RX11, "asked", "(III)I"⟩
abbrev cX11_best : ByteArray := prog_1_method_18_code
def yX11_best : MethodName := ⟨RX11, "best", "(I)I"⟩
abbrev cX11_charge : ByteArray := prog_1_method_19_code
def yX11_charge : MethodName := ⟨RX11, "charge", "(II)I"⟩
abbrev cX11_melt : ByteArray := prog_1_method_20_code
def yX11_melt : MethodName := ⟨RX11, "melt", "(I)I"⟩
abbrev cX11_portions : ByteArray := prog_1_method_21_code
def yX11_portions : MethodName := ⟨RX11, "portions", "(I)I"⟩
abbrev cX11_portion : ByteArray := prog_1_method_22_code
def yX11_portion : MethodName := ⟨RX11, "portion", "(III)I"⟩
abbrev cX11_prove : ByteArray := prog_1_method_23_code
def yX11_prove : MethodName := ⟨RX11, "prove", "(IIII)I"⟩
abbrev cX11_money : ByteArray := prog_1_method_24_code
def yX11_money : MethodName := ⟨RX11, "money", "(I)J"⟩
abbrev cX11_day : ByteArray := prog_1_method_25_code
def yX11_day : MethodName := ⟨RX11, "day", "(I)I"⟩
abbrev cX11_count : ByteArray := prog_1_method_26_code
def yX11_count : MethodName := ⟨RX11, "count", "(I)I"⟩
abbrev cX11_kindOf : ByteArray := prog_1_method_27_code
def yX11_kindOf : MethodName := ⟨RX11, "kindOf", "(I)LScrapYard$Kind;"⟩
abbrev cX11_sellerOf : ByteArray := prog_1_method_28_code
def yX11_sellerOf : MethodName := ⟨RX11, "sellerOf", "(I)LScrapYard$Seller;"⟩
abbrev cX11_loadOf : ByteArray := prog_1_method_29_code
def yX11_loadOf : MethodName := ⟨RX11, "loadOf", "(I)LScrapYard$Load;"⟩
abbrev cX11_meltOf : ByteArray := prog_1_method_30_code
def yX11_meltOf : MethodName := ⟨RX11, "meltOf", "(I)LScrapYard$Melt;"⟩
abbrev cX11_heapOf : ByteArray := prog_1_method_31_code
def yX11_heapOf : MethodName := ⟨RX11, "heapOf", "(I)LScrapYard$Heap;"⟩
abbrev cX11_needHeap : ByteArray := prog_1_method_32_code
def yX11_needHeap : MethodName := ⟨RX11, "needHeap", "(I)V"⟩
abbrev cX11_needMetal : ByteArray := prog_1_method_33_code
def yX11_needMetal : MethodName := ⟨RX11, "needMetal", "(I)V"⟩
abbrev cX11_needSpan : ByteArray := prog_1_method_34_code
def yX11_needSpan : MethodName := ⟨RX11, "needSpan", "(II)V"⟩
abbrev cX11_needChargeTons : ByteArray := prog_1_method_35_code
def yX11_needChargeTons : MethodName := ⟨RX11, "needChargeTons", "(I)V"⟩
abbrev cX11_putOnTape : ByteArray := prog_1_method_36_code
def yX11_putOnTape : MethodName := ⟨RX11, "putOnTape", "(I)V"⟩
abbrev cX11_inForce : ByteArray := prog_1_method_37_code
def yX11_inForce : MethodName := ⟨RX11, "inForce", "(LScrapYard$Seller;I)LScrapYard$Contract;"⟩
abbrev cX11_layersInAll : ByteArray := prog_1_method_38_code
def yX11_layersInAll : MethodName := ⟨RX11, "layersInAll", "()I"⟩
abbrev cX11_tonsInHeaps : ByteArray := prog_1_method_39_code
def yX11_tonsInHeaps : MethodName := ⟨RX11, "tonsInHeaps", "()I"⟩
abbrev cX11_tonsInMelts : ByteArray := prog_1_method_40_code
def yX11_tonsInMelts : MethodName := ⟨RX11, "tonsInMelts", "()I"⟩
abbrev cX11_tonsOf : ByteArray := prog_1_method_41_code
def yX11_tonsOf : MethodName := ⟨RX11, "tonsOf", "(Ljava/util/ArrayList;)I"⟩
abbrev cX11_sumOf : ByteArray := prog_1_method_42_code
def yX11_sumOf : MethodName := ⟨RX11, "sumOf", "(Ljava/util/ArrayList;I)I"⟩
abbrev cX11_cut : ByteArray := prog_1_method_43_code
def yX11_cut : MethodName := ⟨RX11, "cut", "(II)I"⟩
abbrev cX11_roundedUp : ByteArray := prog_1_method_44_code
def yX11_roundedUp : MethodName := ⟨RX11, "roundedUp", "(II)I"⟩
def RX12 : String := "ScrapYardModel"
def TX12 : u_T := fun k => match k with
  | 0 => ("ScrapYardModel", "thrown", "I", false)
  | 1 => ("ScrapYardModel", "kinds", "I", false)
  | 2 => ("ScrapYardModel", "sellers", "I", false)
  | 3 => ("ScrapYardModel", "day", "I", false)
  | 4 => ("ScrapYardModel", "kindLow", "[I", true)
  | 5 => ("ScrapYardModel", "kindHigh", "[I", true)
  | 6 => ("ScrapYardModel", "usualLow", "[I", true)
  | 7 => ("ScrapYardModel", "usualHigh", "[I", true)
  | 8 => ("ScrapYardModel", "isRight", "[Z", true)
  | 9 => ("ScrapYardModel", "paid", "[J", true)
  | 10 => ("ScrapYardModel", "taped", "I", false)
  | 11 => ("ScrapYardModel", "contracts", "I", false)
  | 12 => ("ScrapYardModel", "size", "I", false)
  | 13 => ("ScrapYardModel", "at", "I", false)
  | 14 => ("ScrapYardModel", "bad", "I", false)
  | 15 => ("ScrapYardModel", "tests", "I", false)
  | 16 => ("ScrapYardModel", "tape", "[I", true)
  | 17 => ("ScrapYardModel", "contractOf", "[I", true)
  | 18 => ("ScrapYardModel", "contractDay", "[I", true)
  | 19 => ("ScrapYardModel", "gradeMany", "[I", true)
  | 20 => ("ScrapYardModel", "elsePay", "[I", true)
  | 21 => ("ScrapYardModel", "gradePay", "[I", true)
  | 22 => ("ScrapYardModel", "testFrom", "[I", true)
  | 23 => ("ScrapYardModel", "testMetal", "[I", true)
  | 24 => ("ScrapYardModel", "testSign", "[I", true)
  | 25 => ("ScrapYardModel", "testNumber", "[I", true)
  | 26 => ("ScrapYardModel", "loads", "I", false)
  | 27 => ("ScrapYardModel", "lSeller", "[I", true)
  | 28 => ("ScrapYardModel", "lKind", "[I", true)
  | 29 => ("ScrapYardModel", "lTons", "[I", true)
  | 30 => ("ScrapYardModel", "lDay", "[I", true)
  | 31 => ("ScrapYardModel", "lContract", "[I", true)
  | 32 => ("ScrapYardModel", "lGrade", "[I", true)
  | 33 => ("ScrapYardModel", "lPay", "[I", true)
  | 34 => ("ScrapYardModel", "lLow", "[I", true)
  | 35 => ("ScrapYardModel", "lHigh", "[I", true)
  | 36 => ("ScrapYardModel", "grade", "I", false)
  | 37 => ("ScrapYardModel", "gradesPay", "I", false)
  | 38 => ("ScrapYardModel", "many", "[I", true)
  | 39 => ("ScrapYardModel", "yTons", "[I", true)
  | 40 => ("ScrapYardModel", "yLoad", "[I", true)
  | 41 => ("ScrapYardModel", "yCost", "[I", true)
  | 42 => ("ScrapYardModel", "yLow", "[I", true)
  | 43 => ("ScrapYardModel", "yHigh", "[I", true)
  | 44 => ("ScrapYardModel", "mixLow", "[I", true)
  | 45 => ("ScrapYardModel", "mixHigh", "[I", true)
  | 46 => ("ScrapYardModel", "askedLow", "[I", true)
  | 47 => ("ScrapYardModel", "askedHigh", "[I", true)
  | 48 => ("ScrapYardModel", "heapTons", "[I", true)
  | 49 => ("ScrapYardModel", "tried", "[I", true)
  | 50 => ("ScrapYardModel", "bestTons", "[I", true)
  | 51 => ("ScrapYardModel", "sums", "[J", true)
  | 52 => ("ScrapYardModel", "melts", "I", false)
  | 53 => ("ScrapYardModel", "portionMany", "[I", true)
  | 54 => ("ScrapYardModel", "pTons", "[I", true)
  | 55 => ("ScrapYardModel", "pLoad", "[I", true)
  | 56 => ("ScrapYardModel", "pLow", "[I", true)
  | 57 => ("ScrapYardModel", "pHigh", "[I", true)
  | 58 => ("ScrapYardModel", "newLow", "[I", true)
  | _ => ("ScrapYardModel", "newHigh", "[I", true)
def tyX12 : Nat → FieldType := fun k => match k with
  | 0 => .int
  | 1 => .int
  | 2 => .int
  | 3 => .int
  | 4 => .array .int
  | 5 => .array .int
  | 6 => .array .int
  | 7 => .array .int
  | 8 => .array .boolean
  | 9 => .array .long
  | 10 => .int
  | 11 => .int
  | 12 => .int
  | 13 => .int
  | 14 => .int
  | 15 => .int
  | 16 => .array .int
  | 17 => .array .int
  | 18 => .array .int
  | 19 => .array .int
  | 20 => .array .int
  | 21 => .array .int
  | 22 => .array .int
  | 23 => .array .int
  | 24 => .array .int
  | 25 => .array .int
  | 26 => .int
  | 27 => .array .int
  | 28 => .array .int
  | 29 => .array .int
  | 30 => .array .int
  | 31 => .array .int
  | 32 => .array .int
  | 33 => .array .int
  | 34 => .array .int
  | 35 => .array .int
  | 36 => .int
  | 37 => .int
  | 38 => .array .int
  | 39 => .array .int
  | 40 => .array .int
  | 41 => .array .int
  | 42 => .array .int
  | 43 => .array .int
  | 44 => .array .int
  | 45 => .array .int
  | 46 => .array .int
  | 47 => .array .int
  | 48 => .array .int
  | 49 => .array .int
  | 50 => .array .int
  | 51 => .array .long
  | 52 => .int
  | 53 => .array .int
  | 54 => .array .int
  | 55 => .array .int
  | 56 => .array .int
  | 57 => .array .int
  | 58 => .array .int
  | _ => .array .int
theorem nmX12 : ∀ a, a < 60 → ∀ b, b < 60 → a ≠ b → (TX12 a).2.1 ≠ (TX12 b).2.1 := by decide +kernel
theorem tyX12_ok : ∀ k, k < 60 → parseFieldDescriptor (TX12 k).2.2.1 = some (tyX12 k) := by decide +kernel
abbrev cX12_thrown : ByteArray := prog_14_method_1_code
def yX12_thrown : MethodName := ⟨RX12, "thrown", "()I"⟩
abbrev cX12_may : ByteArray := prog_14_method_2_code
def yX12_may : MethodName := ⟨RX12, "may", "(ZI)Z"⟩
abbrev cX12_init : ByteArray := prog_14_method_3_code
def yX12_init : MethodName := ⟨RX12, "<init>", "()V"⟩
abbrev cX12_kind : ByteArray := prog_14_method_4_code
def yX12_kind : MethodName := ⟨RX12, "kind", "()I"⟩
abbrev cX12_isMetal : ByteArray := prog_14_method_5_code
def yX12_isMetal : MethodName := ⟨RX12, "isMetal", "(I)Z"⟩
abbrev cX12_isSpan : ByteArray := prog_14_method_6_code
def yX12_isSpan : MethodName := ⟨RX12, "isSpan", "(III)Z"⟩
abbrev cX12_span : ByteArray := prog_14_method_7_code
def yX12_span : MethodName := ⟨RX12, "span", "(IIII)I"⟩
abbrev cX12_seller : ByteArray := prog_14_method_8_code
def yX12_seller : MethodName := ⟨RX12, "seller", "()I"⟩
abbrev cX12_isSeller : ByteArray := prog_14_method_9_code
def yX12_isSeller : MethodName := ⟨RX12, "isSeller", "(I)Z"⟩
abbrev cX12_usualAt : ByteArray := prog_14_method_10_code
def yX12_usualAt : MethodName := ⟨RX12, "usualAt", "(III)I"⟩
abbrev cX12_lowOf : ByteArray := prog_14_method_11_code
def yX12_lowOf : MethodName := ⟨RX12, "lowOf", "(III)I"⟩
abbrev cX12_highOf : ByteArray := prog_14_method_12_code
def yX12_highOf : MethodName := ⟨RX12, "highOf", "(III)I"⟩
abbrev cX12_usual : ByteArray := prog_14_method_13_code
def yX12_usual : MethodName := ⟨RX12, "usual", "(IIII)I"⟩
abbrev cX12_feed : ByteArray := prog_14_method_14_code
def yX12_feed : MethodName := ⟨RX12, "feed", "(IIIII)I"⟩
abbrev cX12_fine : ByteArray := prog_14_method_15_code
def yX12_fine : MethodName := ⟨RX12, "fine", "()Z"⟩
abbrev cX12_wrong : ByteArray := prog_14_method_16_code
def yX12_wrong : MethodName := ⟨RX12, "wrong", "(I)V"⟩
abbrev cX12_here : ByteArray := prog_14_method_17_code
def yX12_here : MethodName := ⟨RX12, "here", "()I"⟩
abbrev cX12_isSmall : ByteArray := prog_14_method_18_code
def yX12_isSmall : MethodName := ⟨RX12, "isSmall", "(I)Z"⟩
abbrev cX12_isDigit : ByteArray := prog_14_method_19_code
def yX12_isDigit : MethodName := ⟨RX12, "isDigit", "(I)Z"⟩
abbrev cX12_word : ByteArray := prog_14_method_20_code
def yX12_word : MethodName := ⟨RX12, "word", "()J"⟩
abbrev cX12_pass : ByteArray := prog_14_method_21_code
def yX12_pass : MethodName := ⟨RX12, "pass", "()V"⟩
abbrev cX12_needWord : ByteArray := prog_14_method_22_code
def yX12_needWord : MethodName := ⟨RX12, "needWord", "(J)V"⟩
abbrev cX12_need : ByteArray := prog_14_method_23_code
def yX12_need : MethodName := ⟨RX12, "need", "(I)V"⟩
abbrev cX12_digits : ByteArray := prog_14_method_24_code
def yX12_digits : MethodName := ⟨RX12, "digits", "()I"⟩
abbrev cX12_metalOf : ByteArray := prog_14_method_25_code
def yX12_metalOf : MethodName := ⟨RX12, "metalOf", "(J)I"⟩
abbrev cX12_test : ByteArray := prog_14_method_26_code
def yX12_test : MethodName := ⟨RX12, "test", "()V"⟩
abbrev cX12_pay : ByteArray := prog_14_method_27_code
def yX12_pay : MethodName := ⟨RX12, "pay", "()I"⟩
abbrev cX12_contract : ByteArray := prog_14_method_28_code
def yX12_contract : MethodName := ⟨RX12, "contract", "(III)I"⟩
abbrev cX12_inForce : ByteArray := prog_14_method_29_code
def yX12_inForce : MethodName := ⟨RX12, "inForce", "(II)I"⟩
abbrev cX12_force : ByteArray := prog_14_method_30_code
def yX12_force : MethodName := ⟨RX12, "force", "(II)I"⟩
abbrev cX12_isSure : ByteArray := prog_14_method_31_code
def yX12_isSure : MethodName := ⟨RX12, "isSure", "(III)Z"⟩
abbrev cX12_findGrade : ByteArray := prog_14_method_32_code
def yX12_findGrade : MethodName := ⟨RX12, "findGrade", "(II)V"⟩
abbrev cX12_load : ByteArray := prog_14_method_33_code
def yX12_load : MethodName := ⟨RX12, "load", "(IIII)I"⟩
abbrev cX12_isLoad : ByteArray := prog_14_method_34_code
def yX12_isLoad : MethodName := ⟨RX12, "isLoad", "(I)Z"⟩
abbrev cX12_told : ByteArray := prog_14_method_35_code
def yX12_told : MethodName := ⟨RX12, "told", "(II)I"⟩
abbrev cX12_sample : ByteArray := prog_14_method_36_code
def yX12_sample : MethodName := ⟨RX12, "sample", "(IIII)I"⟩
abbrev cX12_layersInAll : ByteArray := prog_14_method_37_code
def yX12_layersInAll : MethodName := ⟨RX12, "layersInAll", "()I"⟩
abbrev cX12_lowOfLayer : ByteArray := prog_14_method_38_code
def yX12_lowOfLayer : MethodName := ⟨RX12, "lowOfLayer", "(II)I"⟩
abbrev cX12_highOfLayer : ByteArray := prog_14_method_39_code
def yX12_highOfLayer : MethodName := ⟨RX12, "highOfLayer", "(II)I"⟩
abbrev cX12_put : ByteArray := prog_14_method_40_code
def yX12_put : MethodName := ⟨RX12, "put", "(IIIII)V"⟩
abbrev cX12_tonsOf : ByteArray := prog_14_method_41_code
def yX12_tonsOf : MethodName := ⟨RX12, "tonsOf", "(I)I"⟩
abbrev cX12_isHeap : ByteArray := prog_14_method_42_code
def yX12_isHeap : MethodName := ⟨RX12, "isHeap", "(I)Z"⟩
abbrev cX12_tons : ByteArray := prog_14_method_43_code
def yX12_tons : MethodName := ⟨RX12, "tons", "(I)I"⟩
abbrev cX12_layers : ByteArray := prog_14_method_44_code
def yX12_layers : MethodName := ⟨RX12, "layers", "(I)I"⟩
abbrev cX12_layer : ByteArray := prog_14_method_45_code
def yX12_layer : MethodName := ⟨RX12, "layer", "(III)I"⟩
abbrev cX12_move : ByteArray := prog_14_method_46_code
def yX12_move : MethodName := ⟨RX12, "move", "(III)I"⟩
abbrev cX12_mix : ByteArray := prog_14_method_47_code
def yX12_mix : MethodName := ⟨RX12, "mix", "(I)I"⟩
abbrev cX12_asked : ByteArray := prog_14_method_48_code
def yX12_asked : MethodName := ⟨RX12, "asked", "(III)I"⟩
abbrev cX12_sumAt : ByteArray := prog_14_method_49_code
def yX12_sumAt : MethodName := ⟨RX12, "sumAt", "(II)I"⟩
abbrev cX12_findSums : ByteArray := prog_14_method_50_code
def yX12_findSums : MethodName := ⟨RX12, "findSums", "(I)V"⟩
abbrev cX12_total : ByteArray := prog_14_method_51_code
def yX12_total : MethodName := ⟨RX12, "total", "(I)J"⟩
abbrev cX12_findBest : ByteArray := prog_14_method_52_code
def yX12_findBest : MethodName := ⟨RX12, "findBest", "(I)J"⟩
abbrev cX12_isGood : ByteArray := prog_14_method_53_code
def yX12_isGood : MethodName := ⟨RX12, "isGood", "(I)Z"⟩
abbrev cX12_best : ByteArray := prog_14_method_54_code
def yX12_best : MethodName := ⟨RX12, "best", "(I)I"⟩
abbrev cX12_charge : ByteArray := prog_14_method_55_code
def yX12_charge : MethodName := ⟨RX12, "charge", "(II)I"⟩
abbrev cX12_melt : ByteArray := prog_14_method_56_code
def yX12_melt : MethodName := ⟨RX12, "melt", "(I)I"⟩
abbrev cX12_isMelt : ByteArray := prog_14_method_57_code
def yX12_isMelt : MethodName := ⟨RX12, "isMelt", "(I)Z"⟩
abbrev cX12_portions : ByteArray := prog_14_method_58_code
def yX12_portions : MethodName := ⟨RX12, "portions", "(I)I"⟩
abbrev cX12_portion : ByteArray := prog_14_method_59_code
def yX12_portion : MethodName := ⟨RX12, "portion", "(III)I"⟩
abbrev cX12_floor : ByteArray := prog_14_method_60_code
def yX12_floor : MethodName := ⟨RX12, "floor", "(JJ)J"⟩
abbrev cX12_prove : ByteArray := prog_14_method_61_code
def yX12_prove : MethodName := ⟨RX12, "prove", "(IIII)I"⟩
abbrev cX12_putRight : ByteArray := prog_14_method_62_code
def yX12_putRight : MethodName := ⟨RX12, "putRight", "(IIIII)V"⟩
abbrev cX12_money : ByteArray := prog_14_method_63_code
def yX12_money : MethodName := ⟨RX12, "money", "(I)J"⟩
abbrev cX12_day : ByteArray := prog_14_method_64_code
def yX12_day : MethodName := ⟨RX12, "day", "(I)I"⟩
abbrev cX12_count : ByteArray := prog_14_method_65_code
def yX12_count : MethodName := ⟨RX12, "count", "(I)I"⟩
def RJx145de : String := "java/io/Serializable"
def TJx145de : u_T := fun k => match k with
  | _ => ("", "", "", false)
def tyJx145de : Nat → FieldType := fun k => match k with
  | _ => .int
theorem nmJx145de : ∀ a, a < 0 → ∀ b, b < 0 → a ≠ b → (TJx145de a).2.1 ≠ (TJx145de b).2.1 := by decide +kernel
theorem tyJx145de_ok : ∀ k, k < 0 → parseFieldDescriptor (TJx145de k).2.2.1 = some (tyJx145de k) := by decide +kernel
def RJ5 : String := "java/lang/AbstractStringBuilder"
def TJ5 : u_T := fun k => match k with
  | _ => ("", "", "", false)
def tyJ5 : Nat → FieldType := fun k => match k with
  | _ => .int
theorem nmJ5 : ∀ a, a < 0 → ∀ b, b < 0 → a ≠ b → (TJ5 a).2.1 ≠ (TJ5 b).2.1 := by decide +kernel
theorem tyJ5_ok : ∀ k, k < 0 → parseFieldDescriptor (TJ5 k).2.2.1 = some (tyJ5 k) := by decide +kernel
abbrev cJ5_init_d00df : ByteArray := prog_16_method_2_code
def yJ5_init_d00df : MethodName := ⟨RJ5, "<init>", "(I)V"⟩
abbrev cJ5_length_8abf5 : ByteArray := prog_16_method_6_code
def yJ5_length_8abf5 : MethodName := ⟨RJ5, "length", "()I"⟩
abbrev cJ5_ensureCapacityInternal_d00df : ByteArray := prog_16_method_9_code
def yJ5_ensureCapacityInternal_d00df : MethodName := ⟨RJ5, "ensureCapacityInternal", "(I)V"⟩
abbrev cJ5_newCapacity_0f7a4 : ByteArray := prog_16_method_10_code
def yJ5_newCapacity_0f7a4 : MethodName := ⟨RJ5, "newCapacity", "(I)I"⟩
abbrev cJ5_inflate_da8c8 : ByteArray := prog_16_method_11_code
def yJ5_inflate_da8c8 : MethodName := ⟨RJ5, "inflate", "()V"⟩
abbrev cJ5_setLength_d00df : ByteArray := prog_16_method_13_code
def yJ5_setLength_d00df : MethodName := ⟨RJ5, "setLength", "(I)V"⟩
abbrev cJ5_append_cf1ce : ByteArray := prog_16_method_22_code
def yJ5_append_cf1ce : MethodName := ⟨RJ5, "append", "(Ljava/lang/String;)Ljava/lang/AbstractStringBuilder;"⟩
abbrev cJ5_appendNull_278bc : ByteArray := prog_16_method_26_code
def yJ5_appendNull_278bc : MethodName := ⟨RJ5, "appendNull", "()Ljava/lang/AbstractStringBuilder;"⟩
abbrev cJ5_append_3fe6f : ByteArray := prog_16_method_31_code
def yJ5_append_3fe6f : MethodName := ⟨RJ5, "append", "(C)Ljava/lang/AbstractStringBuilder;"⟩
abbrev cJ5_append_c97b9 : ByteArray := prog_16_method_32_code
def yJ5_append_c97b9 : MethodName := ⟨RJ5, "append", "(I)Ljava/lang/AbstractStringBuilder;"⟩
abbrev cJ5_getValue_6d5f1 : ByteArray := prog_16_method_64_code
def yJ5_getValue_6d5f1 : MethodName := ⟨RJ5, "getValue", "()[B"⟩
abbrev cJ5_isLatin1_aae02 : ByteArray := prog_16_method_68_code
def yJ5_isLatin1_aae02 : MethodName := ⟨RJ5, "isLatin1", "()Z"⟩
abbrev cJ5_inflateIfNeededFor_a7421 : ByteArray := prog_16_method_71_code
def yJ5_inflateIfNeededFor_a7421 : MethodName := ⟨RJ5, "inflateIfNeededFor", "(Ljava/lang/String;)V"⟩
abbrev cJ5_putStringAt_47b60 : ByteArray := prog_16_method_73_code
def yJ5_putStringAt_47b60 : MethodName := ⟨RJ5, "putStringAt", "(ILjava/lang/String;)V"⟩
def RJx8e188 : String := "java/lang/Cloneable"
def TJx8e188 : u_T := fun k => match k with
  | _ => ("", "", "", false)
def tyJx8e188 : Nat → FieldType := fun k => match k with
  | _ => .int
theorem nmJx8e188 : ∀ a, a < 0 → ∀ b, b < 0 → a ≠ b → (TJx8e188 a).2.1 ≠ (TJx8e188 b).2.1 := by decide +kernel
theorem tyJx8e188_ok : ∀ k, k < 0 → parseFieldDescriptor (TJx8e188 k).2.2.1 = some (tyJx8e188 k) := by decide +kernel
def RJ6 : String := "java/lang/Integer"
def TJ6 : u_T := fun k => match k with
  | _ => ("", "", "", false)
def tyJ6 : Nat → FieldType := fun k => match k with
  | _ => .int
theorem nmJ6 : ∀ a, a < 0 → ∀ b, b < 0 → a ≠ b → (TJ6 a).2.1 ≠ (TJ6 b).2.1 := by decide +kernel
theorem tyJ6_ok : ∀ k, k < 0 → parseFieldDescriptor (TJ6 k).2.2.1 = some (tyJ6 k) := by decide +kernel
abbrev cJ6_getChars_ba4f3 : ByteArray := prog_21_method_12_code
def yJ6_getChars_ba4f3 : MethodName := ⟨RJ6, "getChars", "(II[B)I"⟩
abbrev cJ6_stringSize_0f7a4 : ByteArray := prog_21_method_13_code
def yJ6_stringSize_0f7a4 : MethodName := ⟨RJ6, "stringSize", "(I)I"⟩
def RJxab1ab : String := "java/lang/Iterable"
def TJxab1ab : u_T := fun k => match k with
  | _ => ("", "", "", false)
def tyJxab1ab : Nat → FieldType := fun k => match k with
  | _ => .int
theorem nmJxab1ab : ∀ a, a < 0 → ∀ b, b < 0 → a ≠ b → (TJxab1ab a).2.1 ≠ (TJxab1ab b).2.1 := by decide +kernel
theorem tyJxab1ab_ok : ∀ k, k < 0 → parseFieldDescriptor (TJxab1ab k).2.2.1 = some (tyJxab1ab k) := by decide +kernel
def RJ9 : String := "java/lang/Math"
def TJ9 : u_T := fun k => match k with
  | _ => ("", "", "", false)
def tyJ9 : Nat → FieldType := fun k => match k with
  | _ => .int
theorem nmJ9 : ∀ a, a < 0 → ∀ b, b < 0 → a ≠ b → (TJ9 a).2.1 ≠ (TJ9 b).2.1 := by decide +kernel
theorem tyJ9_ok : ∀ k, k < 0 → parseFieldDescriptor (TJ9 k).2.2.1 = some (tyJ9 k) := by decide +kernel
abbrev cJ9_floorDiv_7cf53 : ByteArray := prog_23_method_47_code
def yJ9_floorDiv_7cf53 : MethodName := ⟨RJ9, "floorDiv", "(II)I"⟩
abbrev cJ9_max_7cf53 : ByteArray := prog_23_method_65_code
def yJ9_max_7cf53 : MethodName := ⟨RJ9, "max", "(II)I"⟩
abbrev cJ9_min_7cf53 : ByteArray := prog_23_method_69_code
def yJ9_min_7cf53 : MethodName := ⟨RJ9, "min", "(II)I"⟩
def RJ0 : String := "java/lang/String"
def TJ0 : u_T := fun k => match k with
  | 0 => ("java/lang/String", "value", "[B", true)
  | 1 => ("java/lang/String", "coder", "B", true)
  | 2 => ("java/lang/String", "hash", "I", false)
  | _ => ("java/lang/String", "hashIsZero", "Z", false)
def tyJ0 : Nat → FieldType := fun k => match k with
  | 0 => .array .byte
  | 1 => .byte
  | 2 => .int
  | _ => .boolean
theorem nmJ0 : ∀ a, a < 2 → ∀ b, b < 2 → a ≠ b → (TJ0 a).2.1 ≠ (TJ0 b).2.1 := by decide +kernel
theorem tyJ0_ok : ∀ k, k < 2 → parseFieldDescriptor (TJ0 k).2.2.1 = some (tyJ0 k) := by decide +kernel
abbrev cJ0_init_81219 : ByteArray := prog_25_method_53_code
def yJ0_init_81219 : MethodName := ⟨RJ0, "<init>", "(Ljava/lang/StringBuilder;)V"⟩
abbrev cJ0_length_8abf5 : ByteArray := prog_25_method_54_code
def yJ0_length_8abf5 : MethodName := ⟨RJ0, "length", "()I"⟩
abbrev cJ0_charAt_5068e : ByteArray := prog_25_method_56_code
def yJ0_charAt_5068e : MethodName := ⟨RJ0, "charAt", "(I)C"⟩
abbrev cJ0_equals_9ea2d : ByteArray := prog_25_method_66_code
def yJ0_equals_9ea2d : MethodName := ⟨RJ0, "equals", "(Ljava/lang/Object;)Z"⟩
abbrev cJ0_substring_37a41 : ByteArray := prog_25_method_92_code
def yJ0_substring_37a41 : MethodName := ⟨RJ0, "substring", "(II)Ljava/lang/String;"⟩
abbrev cJ0_getBytes_840e7 : ByteArray := prog_25_method_147_code
def yJ0_getBytes_840e7 : MethodName := ⟨RJ0, "getBytes", "([BIB)V"⟩
abbrev cJ0_init_db425 : ByteArray := prog_25_method_150_code
def yJ0_init_db425 : MethodName := ⟨RJ0, "<init>", "(Ljava/lang/AbstractStringBuilder;Ljava/lang/Void;)V"⟩
abbrev cJ0_init_031fb : ByteArray := prog_25_method_151_code
def yJ0_init_031fb : MethodName := ⟨RJ0, "<init>", "([BB)V"⟩
abbrev cJ0_coder_7d493 : ByteArray := prog_25_method_152_code
def yJ0_coder_7d493 : MethodName := ⟨RJ0, "coder", "()B"⟩
abbrev cJ0_isLatin1_aae02 : ByteArray := prog_25_method_154_code
def yJ0_isLatin1_aae02 : MethodName := ⟨RJ0, "isLatin1", "()Z"⟩
abbrev cJ0_checkIndex_df160 : ByteArray := prog_25_method_155_code
def yJ0_checkIndex_df160 : MethodName := ⟨RJ0, "checkIndex", "(II)V"⟩
abbrev cJ0_checkBoundsOffCount_cabcc : ByteArray := prog_25_method_157_code
def yJ0_checkBoundsOffCount_cabcc : MethodName := ⟨RJ0, "checkBoundsOffCount", "(III)I"⟩
abbrev cJ0_checkBoundsBeginEnd_23922 : ByteArray := prog_25_method_158_code
def yJ0_checkBoundsBeginEnd_23922 : MethodName := ⟨RJ0, "checkBoundsBeginEnd", "(III)V"⟩
def RJ4 : String := "java/lang/StringBuilder"
def TJ4 : u_T := fun k => match k with
  | 0 => ("java/lang/AbstractStringBuilder", "value", "[B", false)
  | 1 => ("java/lang/AbstractStringBuilder", "coder", "B", false)
  | 2 => ("java/lang/AbstractStringBuilder", "maybeLatin1", "Z", false)
  | _ => ("java/lang/AbstractStringBuilder", "count", "I", false)
def tyJ4 : Nat → FieldType := fun k => match k with
  | 0 => .array .byte
  | 1 => .byte
  | 2 => .boolean
  | _ => .int
theorem nmJ4 : ∀ a, a < 4 → ∀ b, b < 4 → a ≠ b → (TJ4 a).2.1 ≠ (TJ4 b).2.1 := by decide +kernel
theorem tyJ4_ok : ∀ k, k < 4 → parseFieldDescriptor (TJ4 k).2.2.1 = some (tyJ4 k) := by decide +kernel
abbrev cJ4_init_da8c8 : ByteArray := prog_26_method_1_code
def yJ4_init_da8c8 : MethodName := ⟨RJ4, "<init>", "()V"⟩
abbrev cJ4_append_15ec4 : ByteArray := prog_26_method_7_code
def yJ4_append_15ec4 : MethodName := ⟨RJ4, "append", "(Ljava/lang/String;)Ljava/lang/StringBuilder;"⟩
abbrev cJ4_append_cf468 : ByteArray := prog_26_method_14_code
def yJ4_append_cf468 : MethodName := ⟨RJ4, "append", "(C)Ljava/lang/StringBuilder;"⟩
abbrev cJ4_append_bf812 : ByteArray := prog_26_method_15_code
def yJ4_append_bf812 : MethodName := ⟨RJ4, "append", "(I)Ljava/lang/StringBuilder;"⟩
abbrev cJ4_toString_0e30d : ByteArray := prog_26_method_42_code
def yJ4_toString_0e30d : MethodName := ⟨RJ4, "toString", "()Ljava/lang/String;"⟩
abbrev cJ4_setLength_d00df : ByteArray := prog_26_method_89_code
def yJ4_setLength_d00df : MethodName := ⟨RJ4, "setLength", "(I)V"⟩
abbrev cJ4_length_8abf5 : ByteArray := prog_26_method_93_code
def yJ4_length_8abf5 : MethodName := ⟨RJ4, "length", "()I"⟩
def RJ1 : String := "java/lang/StringLatin1"
def TJ1 : u_T := fun k => match k with
  | _ => ("", "", "", false)
def tyJ1 : Nat → FieldType := fun k => match k with
  | _ => .int
theorem nmJ1 : ∀ a, a < 0 → ∀ b, b < 0 → a ≠ b → (TJ1 a).2.1 ≠ (TJ1 b).2.1 := by decide +kernel
theorem tyJ1_ok : ∀ k, k < 0 → parseFieldDescriptor (TJ1 k).2.2.1 = some (tyJ1 k) := by decide +kernel
abbrev cJ1_charAt_3b067 : ByteArray := prog_27_method_2_code
def yJ1_charAt_3b067 : MethodName := ⟨RJ1, "charAt", "([BI)C"⟩
abbrev cJ1_canEncode_fc78d : ByteArray := prog_27_method_3_code
def yJ1_canEncode_fc78d : MethodName := ⟨RJ1, "canEncode", "(C)Z"⟩
abbrev cJ1_equals_b5fdf : ByteArray := prog_27_method_13_code
def yJ1_equals_b5fdf : MethodName := ⟨RJ1, "equals", "([B[B)Z"⟩
abbrev cJ1_newString_b4f7a : ByteArray := prog_27_method_47_code
def yJ1_newString_b4f7a : MethodName := ⟨RJ1, "newString", "([BII)Ljava/lang/String;"⟩
abbrev cJ1_fillNull_b72d1 : ByteArray := prog_27_method_48_code
def yJ1_fillNull_b72d1 : MethodName := ⟨RJ1, "fillNull", "([BII)V"⟩
abbrev cJ1_inflate_0e8fd : ByteArray := prog_27_method_50_code
def yJ1_inflate_0e8fd : MethodName := ⟨RJ1, "inflate", "([BI[BII)V"⟩
def RJ2 : String := "java/lang/StringUTF16"
def TJ2 : u_T := fun k => match k with
  | _ => ("", "", "", false)
def tyJ2 : Nat → FieldType := fun k => match k with
  | _ => .int
theorem nmJ2 : ∀ a, a < 0 → ∀ b, b < 0 → a ≠ b → (TJ2 a).2.1 ≠ (TJ2 b).2.1 := by decide +kernel
theorem tyJ2_ok : ∀ k, k < 0 → parseFieldDescriptor (TJ2 k).2.2.1 = some (tyJ2 k) := by decide +kernel
abbrev cJ2_newBytesFor_77867 : ByteArray := prog_28_method_2_code
def yJ2_newBytesFor_77867 : MethodName := ⟨RJ2, "newBytesFor", "(I)[B"⟩
abbrev cJ2_newBytesLength_0f7a4 : ByteArray := prog_28_method_3_code
def yJ2_newBytesLength_0f7a4 : MethodName := ⟨RJ2, "newBytesLength", "(I)I"⟩
abbrev cJ2_putChar_b72d1 : ByteArray := prog_28_method_4_code
def yJ2_putChar_b72d1 : MethodName := ⟨RJ2, "putChar", "([BII)V"⟩
abbrev cJ2_getChar_3b067 : ByteArray := prog_28_method_5_code
def yJ2_getChar_3b067 : MethodName := ⟨RJ2, "getChar", "([BI)C"⟩
abbrev cJ2_length_9d52b : ByteArray := prog_28_method_6_code
def yJ2_length_9d52b : MethodName := ⟨RJ2, "length", "([B)I"⟩
abbrev cJ2_coderFromArrayLen_85cad : ByteArray := prog_28_method_15_code
def yJ2_coderFromArrayLen_85cad : MethodName := ⟨RJ2, "coderFromArrayLen", "([BI)B"⟩
abbrev cJ2_compress_39247 : ByteArray := prog_28_method_17_code
def yJ2_compress_39247 : MethodName := ⟨RJ2, "compress", "([BII)[B"⟩
abbrev cJ2_compress_5af95 : ByteArray := prog_28_method_22_code
def yJ2_compress_5af95 : MethodName := ⟨RJ2, "compress", "([BI[BII)I"⟩
abbrev cJ2_newString_b4f7a : ByteArray := prog_28_method_69_code
def yJ2_newString_b4f7a : MethodName := ⟨RJ2, "newString", "([BII)Ljava/lang/String;"⟩
abbrev cJ2_fillNull_b72d1 : ByteArray := prog_28_method_70_code
def yJ2_fillNull_b72d1 : MethodName := ⟨RJ2, "fillNull", "([BII)V"⟩
abbrev cJ2_putCharSB_b72d1 : ByteArray := prog_28_method_71_code
def yJ2_putCharSB_b72d1 : MethodName := ⟨RJ2, "putCharSB", "([BII)V"⟩
abbrev cJ2_getChars_46870 : ByteArray := prog_28_method_77_code
def yJ2_getChars_46870 : MethodName := ⟨RJ2, "getChars", "(III[B)I"⟩
abbrev cJ2_putCharsAt_cd4e5 : ByteArray := prog_28_method_81_code
def yJ2_putCharsAt_cd4e5 : MethodName := ⟨RJ2, "putCharsAt", "([BICCCC)I"⟩
abbrev cJ2_charAt_3b067 : ByteArray := prog_28_method_83_code
def yJ2_charAt_3b067 : MethodName := ⟨RJ2, "charAt", "([BI)C"⟩
abbrev cJ2_inflate_0e8fd : ByteArray := prog_28_method_86_code
def yJ2_inflate_0e8fd : MethodName := ⟨RJ2, "inflate", "([BI[BII)V"⟩
abbrev cJ2_getChars_ba4f3 : ByteArray := prog_28_method_89_code
def yJ2_getChars_ba4f3 : MethodName := ⟨RJ2, "getChars", "(II[B)I"⟩
abbrev cJ2_checkIndex_2214a : ByteArray := prog_28_method_91_code
def yJ2_checkIndex_2214a : MethodName := ⟨RJ2, "checkIndex", "(I[B)V"⟩
abbrev cJ2_checkBoundsBeginEnd_d044e : ByteArray := prog_28_method_93_code
def yJ2_checkBoundsBeginEnd_d044e : MethodName := ⟨RJ2, "checkBoundsBeginEnd", "(II[B)V"⟩
abbrev cJ2_checkBoundsOffCount_d044e : ByteArray := prog_28_method_94_code
def yJ2_checkBoundsOffCount_d044e : MethodName := ⟨RJ2, "checkBoundsOffCount", "(II[B)V"⟩
def RJ10 : String := "java/lang/System"
def TJ10 : u_T := fun k => match k with
  | _ => ("", "", "", false)
def tyJ10 : Nat → FieldType := fun k => match k with
  | _ => .int
theorem nmJ10 : ∀ a, a < 0 → ∀ b, b < 0 → a ≠ b → (TJ10 a).2.1 ≠ (TJ10 b).2.1 := by decide +kernel
theorem tyJ10_ok : ∀ k, k < 0 → parseFieldDescriptor (TJ10 k).2.2.1 = some (tyJ10 k) := by decide +kernel
def RJxa1e45 : String := "java/util/AbstractCollection"
def TJxa1e45 : u_T := fun k => match k with
  | _ => ("", "", "", false)
def tyJxa1e45 : Nat → FieldType := fun k => match k with
  | _ => .int
theorem nmJxa1e45 : ∀ a, a < 0 → ∀ b, b < 0 → a ≠ b → (TJxa1e45 a).2.1 ≠ (TJxa1e45 b).2.1 := by decide +kernel
theorem tyJxa1e45_ok : ∀ k, k < 0 → parseFieldDescriptor (TJxa1e45 k).2.2.1 = some (tyJxa1e45 k) := by decide +kernel
abbrev cJxa1e45_init_da8c8 : ByteArray := prog_31_method_1_code
def yJxa1e45_init_da8c8 : MethodName := ⟨RJxa1e45, "<init>", "()V"⟩
def RJxc12de : String := "java/util/AbstractList"
def TJxc12de : u_T := fun k => match k with
  | _ => ("", "", "", false)
def tyJxc12de : Nat → FieldType := fun k => match k with
  | _ => .int
theorem nmJxc12de : ∀ a, a < 0 → ∀ b, b < 0 → a ≠ b → (TJxc12de a).2.1 ≠ (TJxc12de b).2.1 := by decide +kernel
theorem tyJxc12de_ok : ∀ k, k < 0 → parseFieldDescriptor (TJxc12de k).2.2.1 = some (tyJxc12de k) := by decide +kernel
abbrev cJxc12de_init_da8c8 : ByteArray := prog_32_method_1_code
def yJxc12de_init_da8c8 : MethodName := ⟨RJxc12de, "<init>", "()V"⟩
def RJx4a65c : String := "java/util/ArrayList"
def TJx4a65c : u_T := fun k => match k with
  | 0 => ("java/util/AbstractList", "modCount", "I", false)
  | 1 => ("java/util/ArrayList", "elementData", "[Ljava/lang/Object;", false)
  | _ => ("java/util/ArrayList", "size", "I", false)
def tyJx4a65c : Nat → FieldType := fun k => match k with
  | 0 => .int
  | 1 => .array (.object "java/lang/Object")
  | _ => .int
theorem nmJx4a65c : ∀ a, a < 3 → ∀ b, b < 3 → a ≠ b → (TJx4a65c a).2.1 ≠ (TJx4a65c b).2.1 := by decide +kernel
theorem tyJx4a65c_ok : ∀ k, k < 3 → parseFieldDescriptor (TJx4a65c k).2.2.1 = some (tyJx4a65c k) := by decide +kernel
abbrev cJx4a65c_init_da8c8 : ByteArray := prog_33_method_2_code
def yJx4a65c_init_da8c8 : MethodName := ⟨RJx4a65c, "<init>", "()V"⟩
abbrev cJx4a65c_grow_92f84 : ByteArray := prog_33_method_6_code
def yJx4a65c_grow_92f84 : MethodName := ⟨RJx4a65c, "grow", "(I)[Ljava/lang/Object;"⟩
abbrev cJx4a65c_grow_d5877 : ByteArray := prog_33_method_7_code
def yJx4a65c_grow_d5877 : MethodName := ⟨RJx4a65c, "grow", "()[Ljava/lang/Object;"⟩
abbrev cJx4a65c_size_8abf5 : ByteArray := prog_33_method_8_code
def yJx4a65c_size_8abf5 : MethodName := ⟨RJx4a65c, "size", "()I"⟩
abbrev cJx4a65c_elementData_915e3 : ByteArray := prog_33_method_18_code
def yJx4a65c_elementData_915e3 : MethodName := ⟨RJx4a65c, "elementData", "(I)Ljava/lang/Object;"⟩
abbrev cJx4a65c_get_915e3 : ByteArray := prog_33_method_20_code
def yJx4a65c_get_915e3 : MethodName := ⟨RJx4a65c, "get", "(I)Ljava/lang/Object;"⟩
abbrev cJx4a65c_add_72be8 : ByteArray := prog_33_method_24_code
def yJx4a65c_add_72be8 : MethodName := ⟨RJx4a65c, "add", "(Ljava/lang/Object;[Ljava/lang/Object;I)V"⟩
abbrev cJx4a65c_add_9ea2d : ByteArray := prog_33_method_25_code
def yJx4a65c_add_9ea2d : MethodName := ⟨RJx4a65c, "add", "(Ljava/lang/Object;)Z"⟩
abbrev cJx4a65c_remove_915e3 : ByteArray := prog_33_method_29_code
def yJx4a65c_remove_915e3 : MethodName := ⟨RJx4a65c, "remove", "(I)Ljava/lang/Object;"⟩
abbrev cJx4a65c_fastRemove_b59b0 : ByteArray := prog_33_method_39_code
def yJx4a65c_fastRemove_b59b0 : MethodName := ⟨RJx4a65c, "fastRemove", "([Ljava/lang/Object;I)V"⟩
abbrev cJx4a65c_clear_da8c8 : ByteArray := prog_33_method_40_code
def yJx4a65c_clear_da8c8 : MethodName := ⟨RJx4a65c, "clear", "()V"⟩
def RJ7 : String := "java/util/Arrays"
def TJ7 : u_T := fun k => match k with
  | _ => ("", "", "", false)
def tyJ7 : Nat → FieldType := fun k => match k with
  | _ => .int
theorem nmJ7 : ∀ a, a < 0 → ∀ b, b < 0 → a ≠ b → (TJ7 a).2.1 ≠ (TJ7 b).2.1 := by decide +kernel
theorem tyJ7_ok : ∀ k, k < 0 → parseFieldDescriptor (TJ7 k).2.2.1 = some (tyJ7 k) := by decide +kernel
abbrev cJ7_rangeCheck_23922 : ByteArray := prog_34_method_30_code
def yJ7_rangeCheck_23922 : MethodName := ⟨RJ7, "rangeCheck", "(III)V"⟩
abbrev cJ7_fill_eb02e : ByteArray := prog_34_method_110_code
def yJ7_fill_eb02e : MethodName := ⟨RJ7, "fill", "([BIIB)V"⟩
abbrev cJ7_copyOf_1904c : ByteArray := prog_34_method_119_code
def yJ7_copyOf_1904c : MethodName := ⟨RJ7, "copyOf", "([Ljava/lang/Object;I)[Ljava/lang/Object;"⟩
abbrev cJ7_copyOf_6403c : ByteArray := prog_34_method_120_code
def yJ7_copyOf_6403c : MethodName := ⟨RJ7, "copyOf", "([Ljava/lang/Object;ILjava/lang/Class;)[Ljava/lang/Object;"⟩
abbrev cJ7_copyOf_9075b : ByteArray := prog_34_method_121_code
def yJ7_copyOf_9075b : MethodName := ⟨RJ7, "copyOf", "([BI)[B"⟩
abbrev cJ7_checkLength_df160 : ByteArray := prog_34_method_131_code
def yJ7_checkLength_df160 : MethodName := ⟨RJ7, "checkLength", "(II)V"⟩
abbrev cJ7_copyOfRange_39247 : ByteArray := prog_34_method_132_code
def yJ7_copyOfRange_39247 : MethodName := ⟨RJ7, "copyOfRange", "([BII)[B"⟩
abbrev cJ7_copyOfRangeByte_39247 : ByteArray := prog_34_method_133_code
def yJ7_copyOfRangeByte_39247 : MethodName := ⟨RJ7, "copyOfRangeByte", "([BII)[B"⟩
def RJx5ef63 : String := "java/util/Collection"
def TJx5ef63 : u_T := fun k => match k with
  | _ => ("", "", "", false)
def tyJx5ef63 : Nat → FieldType := fun k => match k with
  | _ => .int
theorem nmJx5ef63 : ∀ a, a < 0 → ∀ b, b < 0 → a ≠ b → (TJx5ef63 a).2.1 ≠ (TJx5ef63 b).2.1 := by decide +kernel
theorem tyJx5ef63_ok : ∀ k, k < 0 → parseFieldDescriptor (TJx5ef63 k).2.2.1 = some (tyJx5ef63 k) := by decide +kernel
def RJxbd725 : String := "java/util/List"
def TJxbd725 : u_T := fun k => match k with
  | _ => ("", "", "", false)
def tyJxbd725 : Nat → FieldType := fun k => match k with
  | _ => .int
theorem nmJxbd725 : ∀ a, a < 0 → ∀ b, b < 0 → a ≠ b → (TJxbd725 a).2.1 ≠ (TJxbd725 b).2.1 := by decide +kernel
theorem tyJxbd725_ok : ∀ k, k < 0 → parseFieldDescriptor (TJxbd725 k).2.2.1 = some (tyJxbd725 k) := by decide +kernel
def RJ15 : String := "java/util/Objects"
def TJ15 : u_T := fun k => match k with
  | _ => ("", "", "", false)
def tyJ15 : Nat → FieldType := fun k => match k with
  | _ => .int
theorem nmJ15 : ∀ a, a < 0 → ∀ b, b < 0 → a ≠ b → (TJ15 a).2.1 ≠ (TJ15 b).2.1 := by decide +kernel
theorem tyJ15_ok : ∀ k, k < 0 → parseFieldDescriptor (TJ15 k).2.2.1 = some (tyJ15 k) := by decide +kernel
abbrev cJ15_checkIndex_7cf53 : ByteArray := prog_38_method_17_code
def yJ15_checkIndex_7cf53 : MethodName := ⟨RJ15, "checkIndex", "(II)I"⟩
def RJxf0a74 : String := "java/util/RandomAccess"
def TJxf0a74 : u_T := fun k => match k with
  | _ => ("", "", "", false)
def tyJxf0a74 : Nat → FieldType := fun k => match k with
  | _ => .int
theorem nmJxf0a74 : ∀ a, a < 0 → ∀ b, b < 0 → a ≠ b → (TJxf0a74 a).2.1 ≠ (TJxf0a74 b).2.1 := by decide +kernel
theorem tyJxf0a74_ok : ∀ k, k < 0 → parseFieldDescriptor (TJxf0a74 k).2.2.1 = some (tyJxf0a74 k) := by decide +kernel
def RJxa66e6 : String := "java/util/SequencedCollection"
def TJxa66e6 : u_T := fun k => match k with
  | _ => ("", "", "", false)
def tyJxa66e6 : Nat → FieldType := fun k => match k with
  | _ => .int
theorem nmJxa66e6 : ∀ a, a < 0 → ∀ b, b < 0 → a ≠ b → (TJxa66e6 a).2.1 ≠ (TJxa66e6 b).2.1 := by decide +kernel
theorem tyJxa66e6_ok : ∀ k, k < 0 → parseFieldDescriptor (TJxa66e6 k).2.2.1 = some (tyJxa66e6 k) := by decide +kernel
def RJ8 : String := "jdk/internal/util/ArraysSupport"
def TJ8 : u_T := fun k => match k with
  | _ => ("", "", "", false)
def tyJ8 : Nat → FieldType := fun k => match k with
  | _ => .int
theorem nmJ8 : ∀ a, a < 0 → ∀ b, b < 0 → a ≠ b → (TJ8 a).2.1 ≠ (TJ8 b).2.1 := by decide +kernel
theorem tyJ8_ok : ∀ k, k < 0 → parseFieldDescriptor (TJ8 k).2.2.1 = some (tyJ8 k) := by decide +kernel
abbrev cJ8_newLength_cabcc : ByteArray := prog_41_method_27_code
def yJ8_newLength_cabcc : MethodName := ⟨RJ8, "newLength", "(III)I"⟩
abbrev cJ8_hugeLength_7cf53 : ByteArray := prog_41_method_28_code
def yJ8_hugeLength_7cf53 : MethodName := ⟨RJ8, "hugeLength", "(II)I"⟩
def RJ3 : String := "jdk/internal/util/Preconditions"
def TJ3 : u_T := fun k => match k with
  | _ => ("", "", "", false)
def tyJ3 : Nat → FieldType := fun k => match k with
  | _ => .int
theorem nmJ3 : ∀ a, a < 0 → ∀ b, b < 0 → a ≠ b → (TJ3 a).2.1 ≠ (TJ3 b).2.1 := by decide +kernel
theorem tyJ3_ok : ∀ k, k < 0 → parseFieldDescriptor (TJ3 k).2.2.1 = some (tyJ3 k) := by decide +kernel
abbrev cJ3_checkIndex_8e157 : ByteArray := prog_42_method_11_code
def yJ3_checkIndex_8e157 : MethodName := ⟨RJ3, "checkIndex", "(IILjava/util/function/BiFunction;)I"⟩
abbrev cJ3_checkFromToIndex_8c36e : ByteArray := prog_42_method_12_code
def yJ3_checkFromToIndex_8c36e : MethodName := ⟨RJ3, "checkFromToIndex", "(IIILjava/util/function/BiFunction;)I"⟩
abbrev cJ3_checkFromIndexSize_8c36e : ByteArray := prog_42_method_13_code
def yJ3_checkFromIndexSize_8c36e : MethodName := ⟨RJ3, "checkFromIndexSize", "(IIILjava/util/function/BiFunction;)I"⟩
def RL : String := "ScrapYardLaw"
abbrev cL_span : ByteArray := method_3_code
def yL_span : MethodName := ⟨RL, "span", "(LScrapYard;IIII[J)I"⟩
abbrev cL_contract : ByteArray := method_4_code
def yL_contract : MethodName := ⟨RL, "contract", "(LScrapYard;III[J)I"⟩
abbrev cL_force : ByteArray := method_5_code
def yL_force : MethodName := ⟨RL, "force", "(LScrapYard;II[J)I"⟩
abbrev cL_usual : ByteArray := method_6_code
def yL_usual : MethodName := ⟨RL, "usual", "(LScrapYard;IIII[J)I"⟩
abbrev cL_load : ByteArray := method_7_code
def yL_load : MethodName := ⟨RL, "load", "(LScrapYard;IIII[J)I"⟩
abbrev cL_told : ByteArray := method_8_code
def yL_told : MethodName := ⟨RL, "told", "(LScrapYard;II[J)I"⟩
abbrev cL_sample : ByteArray := method_9_code
def yL_sample : MethodName := ⟨RL, "sample", "(LScrapYard;IIII[J)I"⟩
abbrev cL_tons : ByteArray := method_10_code
def yL_tons : MethodName := ⟨RL, "tons", "(LScrapYard;I[J)I"⟩
abbrev cL_layers : ByteArray := method_11_code
def yL_layers : MethodName := ⟨RL, "layers", "(LScrapYard;I[J)I"⟩
abbrev cL_layer : ByteArray := method_12_code
def yL_layer : MethodName := ⟨RL, "layer", "(LScrapYard;III[J)I"⟩
abbrev cL_move : ByteArray := method_13_code
def yL_move : MethodName := ⟨RL, "move", "(LScrapYard;III[J)I"⟩
abbrev cL_mix : ByteArray := method_14_code
def yL_mix : MethodName := ⟨RL, "mix", "(LScrapYard;I[J)I"⟩
abbrev cL_asked : ByteArray := method_15_code
def yL_asked : MethodName := ⟨RL, "asked", "(LScrapYard;III[J)I"⟩
abbrev cL_best : ByteArray := method_16_code
def yL_best : MethodName := ⟨RL, "best", "(LScrapYard;I[J)I"⟩
abbrev cL_charge : ByteArray := method_17_code
def yL_charge : MethodName := ⟨RL, "charge", "(LScrapYard;II[J)I"⟩
abbrev cL_melt : ByteArray := method_18_code
def yL_melt : MethodName := ⟨RL, "melt", "(LScrapYard;I[J)I"⟩
abbrev cL_portions : ByteArray := method_19_code
def yL_portions : MethodName := ⟨RL, "portions", "(LScrapYard;I[J)I"⟩
abbrev cL_portion : ByteArray := method_20_code
def yL_portion : MethodName := ⟨RL, "portion", "(LScrapYard;III[J)I"⟩
abbrev cL_prove : ByteArray := method_21_code
def yL_prove : MethodName := ⟨RL, "prove", "(LScrapYard;IIII[J)I"⟩
abbrev cL_money : ByteArray := method_22_code
def yL_money : MethodName := ⟨RL, "money", "(LScrapYard;I[J)I"⟩
abbrev cL_day : ByteArray := method_23_code
def yL_day : MethodName := ⟨RL, "day", "(LScrapYard;I[J)I"⟩
abbrev cL_law : ByteArray := code
def yL_law : MethodName := ⟨RL, "law", "([I)Z"⟩
abbrev vwCl : List vw_C := [(RJ0, TJ0, 2), (RJ4, TJ4, 4), (RJx4a65c, TJx4a65c, 3), (RX0, TX0, 7), (RX1, TX1, 5), (RX2, TX2, 5), (RX3, TX3, 3), (RX4, TX4, 1), (RX5, TX5, 2), (RX6, TX6, 4), (RX7, TX7, 9), (RX8, TX8, 2), (RX9, TX9, 3), (RX10, TX10, 1), (RX11, TX11, 10), (RX12, TX12, 60)]
end
section
def jI (z : Int) : Int32 := Int32.ofInt z
def jL (z : Int) : Int64 := Int64.ofInt z
def jM : Type := (Nat → Nat) × (Nat → Nat) × (Nat → Nat → Nat → Int) × (Nat → Nat → Nat → Int) × (Nat → Nat → Nat → Option Nat)
def jM.tag (h : jM) (a : Nat) : Nat := h.1 a
def jM.len (h : jM) (a : Nat) : Nat := h.2.1 a
def jM.I (h : jM) (t a k : Nat) : Int := h.2.2.1 t a k
def jM.L (h : jM) (t a k : Nat) : Int := h.2.2.2.1 t a k
def jM.R (h : jM) (t a k : Nat) : Option Nat := h.2.2.2.2 t a k
def jM.sI (h : jM) (t a k : Nat) (v : Int) : jM := (h.tag, h.len, fun t' a' k' => if t' = t ∧ a' = a ∧ k' = k then v else h.I t' a' k', h.L, h.R)
def jM.sL (h : jM) (t a k : Nat) (v : Int) : jM := (h.tag, h.len, h.I, fun t' a' k' => if t' = t ∧ a' = a ∧ k' = k then v else h.L t' a' k', h.R)
def jM.sR (h : jM) (t a k : Nat) (v : Option Nat) : jM := (h.tag, h.len, h.I, h.L, fun t' a' k' => if t' = t ∧ a' = a ∧ k' = k then v else h.R t' a' k')
def jM.nw (h : jM) (q t n : Nat) : jM := (fun a => if a = q then t else h.tag a, fun a => if a = q then n else h.len a, fun t' a k => if t' = t ∧ a = q then 0 else h.I t' a k, fun t' a k => if t' = t ∧ a = q then 0 else h.L t' a k, fun t' a k => if t' = t ∧ a = q then none else h.R t' a k)
theorem jM.tag_sI (h : jM) (t a k : Nat) (v : Int) : (h.sI t a k v).tag = h.tag := rfl
theorem jM.tag_sL (h : jM) (t a k : Nat) (v : Int) : (h.sL t a k v).tag = h.tag := rfl
theorem jM.tag_sR (h : jM) (t a k : Nat) (v : Option Nat) : (h.sR t a k v).tag = h.tag := rfl
theorem jM.len_sI (h : jM) (t a k : Nat) (v : Int) : (h.sI t a k v).len = h.len := rfl
theorem jM.len_sL (h : jM) (t a k : Nat) (v : Int) : (h.sL t a k v).len = h.len := rfl
theorem jM.len_sR (h : jM) (t a k : Nat) (v : Option Nat) : (h.sR t a k v).len = h.len := rfl
theorem jM.L_sI (h : jM) (t a k : Nat) (v : Int) : (h.sI t a k v).L = h.L := rfl
theorem jM.R_sI (h : jM) (t a k : Nat) (v : Int) : (h.sI t a k v).R = h.R := rfl
theorem jM.I_sL (h : jM) (t a k : Nat) (v : Int) : (h.sL t a k v).I = h.I := rfl
theorem jM.R_sL (h : jM) (t a k : Nat) (v : Int) : (h.sL t a k v).R = h.R := rfl
theorem jM.I_sR (h : jM) (t a k : Nat) (v : Option Nat) : (h.sR t a k v).I = h.I := rfl
theorem jM.L_sR (h : jM) (t a k : Nat) (v : Option Nat) : (h.sR t a k v).L = h.L := rfl
theorem jM.I_sI (h : jM) (t a k : Nat) (v : Int) (t' a' k' : Nat) : (h.sI t a k v).I t' a' k' = if t' = t ∧ a' = a ∧ k' = k then v else h.I t' a' k' := rfl
theorem jM.L_sL (h : jM) (t a k : Nat) (v : Int) (t' a' k' : Nat) : (h.sL t a k v).L t' a' k' = if t' = t ∧ a' = a ∧ k' = k then v else h.L t' a' k' := rfl
theorem jM.R_sR (h : jM) (t a k : Nat) (v : Option Nat) (t' a' k' : Nat) : (h.sR t a k v).R t' a' k' = if t' = t ∧ a' = a ∧ k' = k then v else h.R t' a' k' := rfl
theorem jM.tag_nw (h : jM) (q t n a : Nat) : (h.nw q t n).tag a = if a = q then t else h.tag a := rfl
theorem jM.len_nw (h : jM) (q t n a : Nat) : (h.nw q t n).len a = if a = q then n else h.len a := rfl
theorem jM.I_nw (h : jM) (q t n t' a k : Nat) : (h.nw q t n).I t' a k = if t' = t ∧ a = q then 0 else h.I t' a k := rfl
theorem jM.L_nw (h : jM) (q t n t' a k : Nat) : (h.nw q t n).L t' a k = if t' = t ∧ a = q then 0 else h.L t' a k := rfl
theorem jM.R_nw (h : jM) (q t n t' a k : Nat) : (h.nw q t n).R t' a k = if t' = t ∧ a = q then none else h.R t' a k := rfl
def jVal (ty : FieldType) (i : Int) (l : Int) (r : Option Nat) : Value := match ty with
  | .long => .long (jL l)
  | .object _ => va_rf r
  | .array _ => va_rf r
  | .float => .float 0
  | .double => .double 0
  | _ => .int (jI i)
def jKi (ty : FieldType) : Bool := match ty with
  | .long => false
  | .object _ => false
  | .array _ => false
  | .float => false
  | .double => false
  | _ => true
def jKr (ty : FieldType) : Bool := match ty with
  | .object _ => true
  | .array _ => true
  | _ => false
theorem jVal_i {ty : FieldType} (h : jKi ty = true) (i : Int) (l : Int) (r : Option Nat) : jVal ty i l r = .int (jI i) := by cases ty <;> first | rfl | (simp [jKi] at h)
theorem jVal_l {ty : FieldType} (h : ty = .long) (i : Int) (l : Int) (r : Option Nat) : jVal ty i l r = .long (jL l) := by subst h; rfl
theorem jVal_r {ty : FieldType} (h : jKr ty = true) (i : Int) (l : Int) (r : Option Nat) : jVal ty i l r = va_rf r := by cases ty <;> first | rfl | (simp [jKr] at h)
def jE (t : Nat) : FieldType := match t with
  | 31 => .array .int
  | 32 => .array .int
  | 33 => .object "ScrapYard$Heap"
  | 34 => .object "java/lang/Object"
  | 35 => .byte
  | 36 => .byte
  | 38 => .long
  | 108 => .boolean
  | 109 => .long
  | 151 => .long
  | _ => .int
def jTy (t k : Nat) : FieldType := match t with
  | 1 => tyJ0 k
  | 2 => tyJ4 k
  | 3 => tyJx4a65c k
  | 4 => tyX0 k
  | 5 => tyX1 k
  | 6 => tyX2 k
  | 7 => tyX3 k
  | 8 => tyX4 k
  | 9 => tyX5 k
  | 10 => tyX6 k
  | 11 => tyX7 k
  | 12 => tyX8 k
  | 13 => tyX9 k
  | 14 => tyX10 k
  | 15 => tyX11 k
  | 16 => tyX12 k
  | t => jE t
def jV (h : jM) (t a k : Nat) : Value := jVal (jTy t k) (h.I t a k) (h.L t a k) (h.R t a k)
def jWr (t : Nat) : Bool := match t with
  | 1 => false
  | 35 => false
  | 36 => false
  | 37 => false
  | _ => true
abbrev jG : Type := Launch × State × va_G × (FieldType → ClassId)
abbrev jG.l (γ : jG) : Launch := γ.1
abbrev jG.s (γ : jG) : State := γ.2.1
abbrev jG.D (γ : jG) : va_G := γ.2.2.1
abbrev jG.E (γ : jG) : FieldType → ClassId := γ.2.2.2
abbrev jG.base (γ : jG) : Nat := γ.2.1.heap.size
def jAt (γ : jG) (h : jM) (a : Nat) (H : Heap) : Prop :=
  (h.tag a < 20 → ∃ q : vw_C, vwCl[h.tag a - 1]? = some q ∧ h.len a = q.2.2 ∧ t_OB a (γ.D.1 (h.tag a - 1)) q.2.2 (γ.D.2 (h.tag a - 1)) H (jV h (h.tag a) a)) ∧
  (20 ≤ h.tag a → H[a]? = some (arrV (γ.E (jE (h.tag a))) (h.len a) (jV h (h.tag a) a))) ∧
  (jWr (h.tag a) = true → 0 < h.len a → γ.base ≤ a)
def jRH (γ : jG) (h : jM) (H : Heap) : Prop := (∀ q, q < γ.base → H[q]? = γ.s.heap[q]?) ∧ γ.base ≤ H.size ∧ ∀ a, h.tag a ≠ 0 → jAt γ h a H
theorem jAt.lt {γ : jG} {h : jM} {a : Nat} {H : Heap} (hA : jAt γ h a H) : a < H.size := by
  rcases Nat.lt_or_ge (h.tag a) 20 with q | q
  · obtain ⟨_, -, -, cell, h1, -⟩ := hA.1 q
    exact (Array.getElem?_eq_some_iff.mp h1).1
  · exact (Array.getElem?_eq_some_iff.mp (hA.2.1 q)).1
theorem jRH.fresh {γ : jG} {h : jM} {H : Heap} (hR : jRH γ h H) : h.tag H.size = 0 := by
  rcases Nat.eq_zero_or_pos (h.tag H.size) with q | q
  · exact q
  · exact absurd (hR.2.2 H.size (by omega)).lt (by omega)
theorem jAt.kept {γ : jG} {h h' : jM} {a : Nat} {H H' : Heap} (hA : jAt γ h a H) (hq : H'[a]? = H[a]?) (ht : h'.tag a = h.tag a) (hl : h'.len a = h.len a) (hv : jV h' (h.tag a) a = jV h (h.tag a) a) : jAt γ h' a H' := by
  refine ⟨fun q => ?_, fun q => ?_, fun q1 q2 => ?_⟩
  · rw [ht] at q ⊢
    obtain ⟨c, h1, h2, h3⟩ := hA.1 q
    exact ⟨c, h1, by rw [hl]; exact h2, by rw [hv]; exact h3.kept hq⟩
  · rw [ht] at q ⊢
    rw [hq, hl, hv]
    exact hA.2.1 q
  · rw [ht] at q1
    rw [hl] at q2
    exact hA.2.2 q1 q2
theorem jRH.moved {γ : jG} {h : jM} {H H' : Heap} (hR : jRH γ h H) (hs : H.size ≤ H'.size) (hq : ∀ q, q < H.size → H'[q]? = H[q]?) : jRH γ h H' :=
  ⟨fun q h1 => (hq q (Nat.lt_of_lt_of_le h1 hR.2.1)).trans (hR.1 q h1), Nat.le_trans hR.2.1 hs, fun a ha => (hR.2.2 a ha).kept (hq a (hR.2.2 a ha).lt) rfl rfl rfl⟩
theorem jRH.set {γ : jG} {h h' : jM} {a : Nat} {H H' : Heap} (hR : jRH γ h H) (ht : h'.tag = h.tag) (hl : h'.len = h.len) (hb : γ.base ≤ a) (hv : ∀ b, b ≠ a → ∀ t, jV h' t b = jV h t b) (ho : ∀ q, q ≠ a → H'[q]? = H[q]?) (hs : H'.size = H.size) (hA : h.tag a ≠ 0 → jAt γ h' a H') : jRH γ h' H' := by
  refine ⟨fun q h1 => (ho q (by omega)).trans (hR.1 q h1), by rw [hs]; exact hR.2.1, fun b hn => ?_⟩
  rw [ht] at hn
  by_cases e : b = a
  · subst e
    exact hA hn
  · exact (hR.2.2 b hn).kept (ho b e) (by rw [ht]) (by rw [hl]) (hv b e _)
theorem jV_sI {h : jM} {t a k : Nat} {x : Int} (hk : jKi (jTy t k) = true) : jV (h.sI t a k x) t a = updV (jV h t a) k (.int (jI x)) := by
  funext j
  unfold updV jV
  by_cases e : j = k
  · subst e
    rw [if_pos rfl, jVal_i hk, jM.I_sI, if_pos ⟨rfl, rfl, rfl⟩]
  · rw [if_neg e, jM.I_sI, if_neg (fun q => e q.2.2), jM.L_sI, jM.R_sI]
theorem jV_sL {h : jM} {t a k : Nat} {x : Int} (hk : jTy t k = .long) : jV (h.sL t a k x) t a = updV (jV h t a) k (.long (jL x)) := by
  funext j
  unfold updV jV
  by_cases e : j = k
  · subst e
    rw [if_pos rfl, jVal_l hk, jM.L_sL, if_pos ⟨rfl, rfl, rfl⟩]
  · rw [if_neg e, jM.L_sL, if_neg (fun q => e q.2.2), jM.I_sL, jM.R_sL]
theorem jV_sR {h : jM} {t a k : Nat} {x : Option Nat} (hk : jKr (jTy t k) = true) : jV (h.sR t a k x) t a = updV (jV h t a) k (va_rf x) := by
  funext j
  unfold updV jV
  by_cases e : j = k
  · subst e
    rw [if_pos rfl, jVal_r hk, jM.R_sR, if_pos ⟨rfl, rfl, rfl⟩]
  · rw [if_neg e, jM.R_sR, if_neg (fun q => e q.2.2), jM.I_sR, jM.L_sR]
theorem jV_oI {h : jM} {t a k : Nat} {x : Int} {b : Nat} (hb : b ≠ a) (t' : Nat) : jV (h.sI t a k x) t' b = jV h t' b := by
  funext j
  unfold jV
  rw [jM.I_sI, if_neg (fun q => hb q.2.1), jM.L_sI, jM.R_sI]
theorem jV_oL {h : jM} {t a k : Nat} {x : Int} {b : Nat} (hb : b ≠ a) (t' : Nat) : jV (h.sL t a k x) t' b = jV h t' b := by
  funext j
  unfold jV
  rw [jM.L_sL, if_neg (fun q => hb q.2.1), jM.I_sL, jM.R_sL]
theorem jV_oR {h : jM} {t a k : Nat} {x : Option Nat} {b : Nat} (hb : b ≠ a) (t' : Nat) : jV (h.sR t a k x) t' b = jV h t' b := by
  funext j
  unfold jV
  rw [jM.R_sR, if_neg (fun q => hb q.2.1), jM.I_sR, jM.L_sR]
/-- an array written at one place -/
theorem jRH.arr {γ : jG} {h h' : jM} {a k : Nat} {v : Value} {H H' : Heap} (hR : jRH γ h H) (ht : h'.tag = h.tag) (hl : h'.len = h.len) (hb : γ.base ≤ a) (hv : ∀ b, b ≠ a → ∀ t, jV h' t b = jV h t b) (hu : jV h' (h.tag a) a = updV (jV h (h.tag a) a) k v) (h20 : 20 ≤ h.tag a)
    (h1 : H'[a]? = some ((arrV (γ.E (jE (h.tag a))) (h.len a) (jV h (h.tag a) a)).setSlot k v)) (ho : ∀ q, q ≠ a → H'[q]? = H[q]?) (hs : H'.size = H.size) : jRH γ h' H' := by
  refine hR.set ht hl hb hv ho hs fun hn => ⟨fun q => ?_, fun _ => ?_, fun _ _ => hb⟩
  · rw [ht] at q
    omega
  · rw [ht, hl, h1, hu, arrV_store]
/-- an object written at one field -/
theorem jRH.obj {γ : jG} {h h' : jM} {a k : Nat} {v : Value} {H H' : Heap} {cell : Cell} {q : vw_C} (hR : jRH γ h H) (ht : h'.tag = h.tag) (hl : h'.len = h.len) (hb : γ.base ≤ a) (hv : ∀ b, b ≠ a → ∀ t, jV h' t b = jV h t b) (hu : jV h' (h.tag a) a = updV (jV h (h.tag a) a) k v) (h20 : h.tag a < 20)
    (hq : vwCl[h.tag a - 1]? = some q) (hlen : h.len a = q.2.2) (hk : k < q.2.2) (hap : ∀ x y, x < q.2.2 → y < q.2.2 → x ≠ y → γ.D.2 (h.tag a - 1) x ≠ γ.D.2 (h.tag a - 1) y) (hc : cell.cls = γ.D.1 (h.tag a - 1)) (hvm : cell.vm = .none) (hf : ∀ j, j < q.2.2 → cell.slots[γ.D.2 (h.tag a - 1) j]? = some (jV h (h.tag a) a j))
    (h1 : H'[a]? = some (cell.setSlot (γ.D.2 (h.tag a - 1) k) v)) (ho : ∀ q, q ≠ a → H'[q]? = H[q]?) (hs : H'.size = H.size) : jRH γ h' H' := by
  refine hR.set ht hl hb hv ho hs fun hn => ⟨fun _ => ?_, fun q => ?_, fun _ _ => hb⟩
  · rw [ht, hl, hu]
    exact ⟨q, hq, hlen, _, h1, hc, hvm, t_set hf hap hk v⟩
  · rw [ht] at q
    omega
/-- a new cell -/
theorem jRH.new {γ : jG} {h : jM} {t n : Nat} {H H' : Heap} (hR : jRH γ h H) (hs : H'.size = H.size + 1) (ho : ∀ q, q < H.size → H'[q]? = H[q]?) (hA : jAt γ (h.nw H.size t n) H.size H') : jRH γ (h.nw H.size t n) H' := by
  refine ⟨fun q h1 => (ho q (Nat.lt_of_lt_of_le h1 hR.2.1)).trans (hR.1 q h1), by rw [hs]; exact Nat.le_succ_of_le hR.2.1, fun b hb => ?_⟩
  by_cases e : b = H.size
  · subst e
    exact hA
  · rw [jM.tag_nw, if_neg e] at hb
    refine (hR.2.2 b hb).kept (ho b (hR.2.2 b hb).lt) (by rw [jM.tag_nw, if_neg e]) (by rw [jM.len_nw, if_neg e]) ?_
    funext j
    unfold jV
    rw [jM.I_nw, jM.L_nw, jM.R_nw, if_neg (fun q => e q.2), if_neg (fun q => e q.2), if_neg (fun q => e q.2)]
end
section
theorem jLay_J0 : (u_ws RJ0 TJ0 2).all (fun w => decide (w ∈ lw_tbl) && goodWord w) = true := by decide +kernel
theorem jLay_J4 : (u_ws RJ4 TJ4 4).all (fun w => decide (w ∈ lw_tbl) && goodWord w) = true := by decide +kernel
theorem jLay_Jx4a65c : (u_ws RJx4a65c TJx4a65c 3).all (fun w => decide (w ∈ lw_tbl) && goodWord w) = true := by decide +kernel
theorem jLay_X0 : (u_ws RX0 TX0 7).all (fun w => decide (w ∈ lw_tbl) && goodWord w) = true := by decide +kernel
theorem jLay_X1 : (u_ws RX1 TX1 5).all (fun w => decide (w ∈ lw_tbl) && goodWord w) = true := by decide +kernel
theorem jLay_X2 : (u_ws RX2 TX2 5).all (fun w => decide (w ∈ lw_tbl) && goodWord w) = true := by decide +kernel
theorem jLay_X3 : (u_ws RX3 TX3 3).all (fun w => decide (w ∈ lw_tbl) && goodWord w) = true := by decide +kernel
theorem jLay_X4 : (u_ws RX4 TX4 1).all (fun w => decide (w ∈ lw_tbl) && goodWord w) = true := by decide +kernel
theorem jLay_X5 : (u_ws RX5 TX5 2).all (fun w => decide (w ∈ lw_tbl) && goodWord w) = true := by decide +kernel
theorem jLay_X6 : (u_ws RX6 TX6 4).all (fun w => decide (w ∈ lw_tbl) && goodWord w) = true := by decide +kernel
theorem jLay_X7 : (u_ws RX7 TX7 9).all (fun w => decide (w ∈ lw_tbl) && goodWord w) = true := by decide +kernel
theorem jLay_X8 : (u_ws RX8 TX8 2).all (fun w => decide (w ∈ lw_tbl) && goodWord w) = true := by decide +kernel
theorem jLay_X9 : (u_ws RX9 TX9 3).all (fun w => decide (w ∈ lw_tbl) && goodWord w) = true := by decide +kernel
theorem jLay_X10 : (u_ws RX10 TX10 1).all (fun w => decide (w ∈ lw_tbl) && goodWord w) = true := by decide +kernel
theorem jLay_X11 : (u_ws RX11 TX11 10).all (fun w => decide (w ∈ lw_tbl) && goodWord w) = true := by decide +kernel
theorem jLay_X12 : (u_ws RX12 TX12 60).all (fun w => decide (w ∈ lw_tbl) && goodWord w) = true := by decide +kernel
end
section
theorem jLays {i : Nat} {q : vw_C} (hq : vwCl[i]? = some q) : ∀ w ∈ u_ws q.1 q.2.1 q.2.2, w ∈ lw_tbl ∧ goodWord w = true := by
  intro w hw
  have key : ∀ {R : String} {T : u_T} {n : Nat}, (u_ws R T n).all (fun w => decide (w ∈ lw_tbl) && goodWord w) = true → w ∈ u_ws R T n → w ∈ lw_tbl ∧ goodWord w = true := fun h h2 => by
    have h1 := List.all_eq_true.mp h w h2
    simp only [Bool.and_eq_true, decide_eq_true_eq] at h1
    exact h1
  match i, hq with
  | 0, hq => cases hq; exact key jLay_J0 hw
  | 1, hq => cases hq; exact key jLay_J4 hw
  | 2, hq => cases hq; exact key jLay_Jx4a65c hw
  | 3, hq => cases hq; exact key jLay_X0 hw
  | 4, hq => cases hq; exact key jLay_X1 hw
  | 5, hq => cases hq; exact key jLay_X2 hw
  | 6, hq => cases hq; exact key jLay_X3 hw
  | 7, hq => cases hq; exact key jLay_X4 hw
  | 8, hq => cases hq; exact key jLay_X5 hw
  | 9, hq => cases hq; exact key jLay_X6 hw
  | 10, hq => cases hq; exact key jLay_X7 hw
  | 11, hq => cases hq; exact key jLay_X8 hw
  | 12, hq => cases hq; exact key jLay_X9 hw
  | 13, hq => cases hq; exact key jLay_X10 hw
  | 14, hq => cases hq; exact key jLay_X11 hw
  | 15, hq => cases hq; exact key jLay_X12 hw
  | i + 16, hq => simp [vwCl] at hq
theorem jNm {i : Nat} {q : vw_C} (hq : vwCl[i]? = some q) : ∀ a, a < q.2.2 → ∀ b, b < q.2.2 → a ≠ b → (q.2.1 a).2.1 ≠ (q.2.1 b).2.1 := by
  match i, hq with
  | 0, hq => cases hq; exact nmJ0
  | 1, hq => cases hq; exact nmJ4
  | 2, hq => cases hq; exact nmJx4a65c
  | 3, hq => cases hq; exact nmX0
  | 4, hq => cases hq; exact nmX1
  | 5, hq => cases hq; exact nmX2
  | 6, hq => cases hq; exact nmX3
  | 7, hq => cases hq; exact nmX4
  | 8, hq => cases hq; exact nmX5
  | 9, hq => cases hq; exact nmX6
  | 10, hq => cases hq; exact nmX7
  | 11, hq => cases hq; exact nmX8
  | 12, hq => cases hq; exact nmX9
  | 13, hq => cases hq; exact nmX10
  | 14, hq => cases hq; exact nmX11
  | 15, hq => cases hq; exact nmX12
  | i + 16, hq => simp [vwCl] at hq
theorem jTyOk {i : Nat} {q : vw_C} (hq : vwCl[i]? = some q) : ∀ k, k < q.2.2 → parseFieldDescriptor (q.2.1 k).2.2.1 = some (jTy (i + 1) k) := by
  match i, hq with
  | 0, hq => cases hq; exact tyJ0_ok
  | 1, hq => cases hq; exact tyJ4_ok
  | 2, hq => cases hq; exact tyJx4a65c_ok
  | 3, hq => cases hq; exact tyX0_ok
  | 4, hq => cases hq; exact tyX1_ok
  | 5, hq => cases hq; exact tyX2_ok
  | 6, hq => cases hq; exact tyX3_ok
  | 7, hq => cases hq; exact tyX4_ok
  | 8, hq => cases hq; exact tyX5_ok
  | 9, hq => cases hq; exact tyX6_ok
  | 10, hq => cases hq; exact tyX7_ok
  | 11, hq => cases hq; exact tyX8_ok
  | 12, hq => cases hq; exact tyX9_ok
  | 13, hq => cases hq; exact tyX10_ok
  | 14, hq => cases hq; exact tyX11_ok
  | 15, hq => cases hq; exact tyX12_ok
  | i + 16, hq => simp [vwCl] at hq

def jTys : List FieldType := [.int, .long, .byte, .boolean, .array .int, .object "ScrapYard$Heap", .object "java/lang/Object"]
/-- an array's row in the tables -/
def jAr (U : State) (cA : ClassId) (ty : FieldType) : Prop := U.vm.findClass ("[" ++ ty.toString) = some cA ∧ ∃ (kA : Class) (comp : ClassId), U.vm.classes[cA]? = some kA ∧ kA.kind = .array comp ty
theorem jAr.moved {u U : State} (hvm : u.vm.Alike U.vm) {cA : ClassId} {ty : FieldType} (h : jAr u cA ty) : jAr U cA ty := by
  obtain ⟨h1, kA, comp, h2, h3⟩ := h
  obtain ⟨k', hk', he⟩ := hvm.2.2 _ _ h2
  exact ⟨by rw [hvm.findClass]; exact h1, k', comp, hk', by rw [he]; exact h3⟩
theorem jAr.of {U : State} {cA : ClassId} {ty : FieldType} (h : jAr U cA ty) : ArrOfT U cA ty := by
  obtain ⟨-, kA, comp, h2, h3⟩ := h
  exact fun n z => ⟨fun k h => (by cases h), kA, h2, comp, h3⟩
def jF (γ : jG) : Prop := γ.l.stackTraces = false ∧ (∃ A : Array Value, (∀ w ∈ lw_tbl, w.before A γ.s = true) ∧ (Jvm.Cond.and given_1 narrow_1).before A γ.s = true) ∧ va_K γ.D vwCl [] γ.s ∧ ∀ ty ∈ jTys, jAr γ.s (γ.E ty) ty
abbrev jMth : Type := MethodName × ByteArray × Nat × Option FieldType × List (Nat × Nat × Nat × Nat) × Nat × (Nat → Option (Instr × Nat))
abbrev jMth.y (μ : jMth) : MethodName := μ.1
abbrev jMth.cc (μ : jMth) : ByteArray := μ.2.1
abbrev jMth.mL (μ : jMth) : Nat := μ.2.2.1
abbrev jMth.ret (μ : jMth) : Option FieldType := μ.2.2.2.1
abbrev jMth.hh (μ : jMth) : List (Nat × Nat × Nat × Nat) := μ.2.2.2.2.1
abbrev jMth.np (μ : jMth) : Nat := μ.2.2.2.2.2.1
abbrev jMth.cm (μ : jMth) : Nat → Option (Instr × Nat) := μ.2.2.2.2.2.2
def jC (γ : jG) (μ : jMth) (p : Program) (s : State) (m : MethodId) (meth : Method) (c : Code) : Prop :=
  p.tables.exec = Jvm.exec ∧ c.code = μ.cc ∧ c.maxLocals = μ.mL ∧ meth.sig.returnType = μ.ret ∧ meth.locks = false ∧ s.vm.findClass μ.y.cls = some m.cls ∧ meth.name = μ.y.name ∧ c.exceptionTable.toList = tableOf μ.hh ∧ γ.s.WarmedH s.vm ∧ γ.base ≤ s.heap.size ∧ (∀ q, q < γ.base → s.heap[q]? = γ.s.heap[q]?) ∧ jF γ ∧ ∀ pc x, μ.cm pc = some x → decode μ.cc pc = .ok x
section JC
variable {γ : jG} {μ : jMth} {p : Program} {s : State} {m : MethodId} {meth : Method} {c : Code}
theorem jC.hx (C : jC γ μ p s m meth c) : p.tables.exec = Jvm.exec := C.1
theorem jC.hb (C : jC γ μ p s m meth c) : c.code = μ.cc := C.2.1
theorem jC.hml (C : jC γ μ p s m meth c) : c.maxLocals = μ.mL := C.2.2.1
theorem jC.hr (C : jC γ μ p s m meth c) : meth.sig.returnType = μ.ret := C.2.2.2.1
theorem jC.locks (C : jC γ μ p s m meth c) : meth.locks = false := C.2.2.2.2.1
theorem jC.hown (C : jC γ μ p s m meth c) : s.vm.findClass μ.y.cls = some m.cls := C.2.2.2.2.2.1
theorem jC.nm (C : jC γ μ p s m meth c) : meth.name = μ.y.name := C.2.2.2.2.2.2.1
theorem jC.tab (C : jC γ μ p s m meth c) : c.exceptionTable.toList = tableOf μ.hh := C.2.2.2.2.2.2.2.1
theorem jC.warm (C : jC γ μ p s m meth c) : γ.s.WarmedH s.vm := C.2.2.2.2.2.2.2.2.1
theorem jC.base (C : jC γ μ p s m meth c) : γ.base ≤ s.heap.size := C.2.2.2.2.2.2.2.2.2.1
theorem jC.old (C : jC γ μ p s m meth c) : ∀ q, q < γ.base → s.heap[q]? = γ.s.heap[q]? := C.2.2.2.2.2.2.2.2.2.2.1
theorem jC.F (C : jC γ μ p s m meth c) : jF γ := C.2.2.2.2.2.2.2.2.2.2.2.1
theorem jC.dec (C : jC γ μ p s m meth c) {pc : Nat} {x : Instr × Nat} (h : μ.cm pc = some x) : decode μ.cc pc = .ok x := C.2.2.2.2.2.2.2.2.2.2.2.2 pc x h
theorem jC.w (C : jC γ μ p s m meth c) {w : Cond} (hw : w ∈ lw_tbl) (hg : goodWord w = true) {args : Array Value} : w.before args s = true := by
  obtain ⟨A, h, -⟩ := C.F.2.1
  exact word_at C.warm (good_of_word hg) (h w hw)
theorem jC.wN (C : jC γ μ p s m meth c) {a : String} {i : Nat} {b n d h : String} (hw : Cond.fieldLinkNest a i b n d h ∈ lw_tbl) {args : Array Value} : (Cond.fieldLinkNest a i b n d h).before args s = true := by
  obtain ⟨A, h, -⟩ := C.F.2.1
  exact (va_Nw.warmF C.warm (va_Nw.of rfl (h _ hw))).use rfl
theorem jC.wM (C : jC γ μ p s m meth c) {a : String} {i : Nat} {x : MethodName} {h : String} (hw : Cond.methodLinkNest a i x h ∈ lw_tbl) {args : Array Value} : (Cond.methodLinkNest a i x h).before args s = true := by
  obtain ⟨A, h, -⟩ := C.F.2.1
  exact (va_Nw.warmM C.warm (va_Nw.of rfl (h _ hw))).use rfl
theorem jC.K (C : jC γ μ p s m meth c) : va_K γ.D vwCl [] s := va_K.moved C.warm.alike C.F.2.2.1
theorem jC.A (C : jC γ μ p s m meth c) {ty : FieldType} (h : ty ∈ jTys) : jAr s (γ.E ty) ty := (C.F.2.2.2 ty h).moved C.warm.alike
end JC
def jRm (f mc ms : Nat) : Room := { frames := f, cells := mc, slots := ms, locals := f * 64 }
def jPc (γ : jG) (a : List Value) (h : jM) : Array Value → State → Prop := fun v U => v = a.toArray ∧ γ.s.WarmedH U.vm ∧ jRH γ h U.heap ∧ jF γ
def jQc (γ : jG) (Q : Option Value → jM → Prop) : Array Value → State → Outcome → State → Prop := fun _ _ o t => ∃ r h', o = .returned r ∧ Q r h' ∧ jRH γ h' t.heap
def jXc (γ : jG) (X : String → jM → Prop) : String → State → State → Prop := fun E _ t => ∃ h', X E h' ∧ jRH γ h' t.heap
def jFree (γ : jG) : Addr → Prop := fun q => γ.base ≤ q
def jWord (μ : jMth) : Cond := match μ.hh with
  | [] => .code μ.y μ.cc μ.mL μ.ret
  | _ => .codeWith μ.y μ.cc μ.mL μ.ret μ.hh
/-- the contract of a method: called with a in the memory h it returns with Q or throws with X; at most mc cells of ms slots are new -/
def CT (γ : jG) (μ : jMth) (f mc ms : Nat) (a : List Value) (h : jM) (Q : Option Value → jM → Prop) (X : String → jM → Prop) : Prop :=
  vx_Met γ.l μ.y [jWord μ] (jRm f mc ms) (jPc γ a h) (jQc γ Q) (jXc γ X) mc ms (jFree γ)
/-- the method stands at pc with locals lv and stack st in the memory h; it will end with Q or X -/
def J (γ : jG) (μ : jMth) (f mc ms cells slots : Nat) (h : jM) (pc : Nat) (lv : List (Nat × Value)) (st : List Value) (Q : Option Value → jM → Prop) (X : String → jM → Prop) : Prop :=
  ∀ (p : Program) (e : Env) (s : State) (m : MethodId) (args : Array Value) (below : List Frame) (meth : Method) (c : Code), jC γ μ p s m meth c →
  ∀ (H : Heap) (locs : List Loc) (ls : Array Slot), jRH γ h H → s.heap.size ≤ H.size → (∀ q ∈ locs, γ.base ≤ q.base) → lv_has ls μ.mL lv →
    W p γ.l e (jRm f mc ms) s m args below meth c H locs cells slots (vx_MQ below (jQc γ Q) (jXc γ X) args s mc ms (jFree γ)) (F0 m pc ls st)
def jGet : List (Nat × Value) → Nat → Option Value
  | [], _ => none
  | (i, v) :: t, k => bif Nat.beq i k then some v else jGet t k
theorem jGet_in : ∀ {lv : List (Nat × Value)} {i : Nat} {v : Value}, jGet lv i = some v → (i, v) ∈ lv
  | [], _, _, h => by simp [jGet] at h
  | (j, w) :: t, i, v, h => by
    unfold jGet at h
    cases e : Nat.beq j i with
    | true =>
      rw [e] at h
      simp only [cond_true, Option.some.injEq] at h
      rw [Nat.eq_of_beq_eq_true e, h]
      exact List.mem_cons_self
    | false =>
      rw [e] at h
      exact List.mem_cons_of_mem _ (jGet_in h)
theorem jGet_at {ls : Array Slot} {nL i : Nat} {lv : List (Nat × Value)} {v : Value} (h : lv_has ls nL lv) (hg : jGet lv i = some v) : ls[i]? = some (.val v) := h.2.2 (i, v) (jGet_in hg)
def jPut : List (Nat × Value) → Nat → Value → List (Nat × Value)
  | [], i, v => [(i, v)]
  | (j, w) :: t, i, v => bif Nat.blt i j then (i, v) :: (j, w) :: t else (j, w) :: jPut t i v
theorem jPut_in : ∀ {lv : List (Nat × Value)} {i : Nat} {v : Value} {q : Nat × Value}, q ∈ jPut lv i v → q = (i, v) ∨ q ∈ lv
  | [], i, v, q, h => by
    simp [jPut] at h
    exact Or.inl h
  | (j, w) :: t, i, v, q, h => by
    unfold jPut at h
    cases e : Nat.blt i j with
    | true =>
      rw [e] at h
      simp only [cond_true, List.mem_cons] at h
      rcases h with h | h | h
      · exact Or.inl h
      · exact Or.inr (by rw [h]; exact List.mem_cons_self)
      · exact Or.inr (List.mem_cons_of_mem _ h)
    | false =>
      rw [e] at h
      simp only [cond_false, List.mem_cons] at h
      rcases h with h | h
      · exact Or.inr (by rw [h]; exact List.mem_cons_self)
      · rcases jPut_in h with h | h
        · exact Or.inl h
        · exact Or.inr (List.mem_cons_of_mem _ h)
/-- the locals with v at i, a value of one word or of two -/
def jS1 (lv : List (Nat × Value)) (i : Nat) (v : Value) : List (Nat × Value) := jPut (lv.filter (fun q => !(q.1 == i) && !(q.1 + 1 == i && q.2.category == 2))) i v
def jS2 (lv : List (Nat × Value)) (i : Nat) (v : Value) : List (Nat × Value) := jPut (lv.filter (fun q => !(q.1 == i) && (!(q.1 == i + 1) && !(q.1 + 1 == i && q.2.category == 2)))) i v
theorem jPut_has {ls : Array Slot} {nL i : Nat} {lv : List (Nat × Value)} {v : Value} (h : lv_has ls nL ((i, v) :: lv)) : lv_has ls nL (jPut lv i v) :=
  ⟨h.1, h.2.1, fun q hq => h.2.2 q (by
    rcases jPut_in hq with e | e
    · rw [e]; exact List.mem_cons_self
    · exact List.mem_cons_of_mem _ e)⟩
theorem jSub_has {ls : Array Slot} {nL : Nat} {lv lv' : List (Nat × Value)} (h : lv_has ls nL lv) (hs : ∀ q ∈ lv', jGet lv q.1 = some q.2) : lv_has ls nL lv' := ⟨h.1, h.2.1, fun q hq => jGet_at h (hs q hq)⟩
end
section
abbrev r32 (z : Int) : Prop := -2147483648 ≤ z ∧ z ≤ 2147483647
abbrev r64 (z : Int) : Prop := -9223372036854775808 ≤ z ∧ z ≤ 9223372036854775807
theorem jI_toInt {z : Int} (h : r32 z) : (jI z).toInt = z := Int32.toInt_ofInt_of_le (by omega) (by omega)
theorem jL_toInt {z : Int} (h : r64 z) : (jL z).toInt = z := Int64.toInt_ofInt_of_le (by omega) (by omega)
theorem jI_of (x : Int32) : ∃ z : Int, r32 z ∧ x = jI z := ⟨x.toInt, by
  have h1 := Int32.le_toInt x
  have h2 := Int32.toInt_lt x
  constructor <;> omega, (Int32.ofInt_toInt x).symm⟩
theorem jI_add (a b : Int) : jI a + jI b = jI (a + b) := (Int32.ofInt_add a b).symm
theorem jI_sub (a b : Int) : jI a - jI b = jI (a - b) := (Int32.ofInt_sub a b).symm
theorem jI_mul (a b : Int) : jI a * jI b = jI (a * b) := (Int32.ofInt_mul a b).symm
theorem jI_neg (a : Int) : -jI a = jI (-a) := (Int32.ofInt_neg a).symm
theorem jL_add (a b : Int) : jL a + jL b = jL (a + b) := (Int64.ofInt_add a b).symm
theorem jL_sub (a b : Int) : jL a - jL b = jL (a - b) := (Int64.ofInt_sub a b).symm
theorem jL_mul (a b : Int) : jL a * jL b = jL (a * b) := (Int64.ofInt_mul a b).symm
theorem jL_neg (a : Int) : -jL a = jL (-a) := (Int64.ofInt_neg a).symm
theorem jI_lt {a b : Int} (ha : r32 a) (hb : r32 b) : jI a < jI b ↔ a < b := by rw [Int32.lt_iff_toInt_lt, jI_toInt ha, jI_toInt hb]
theorem jI_le {a b : Int} (ha : r32 a) (hb : r32 b) : jI a ≤ jI b ↔ a ≤ b := by rw [Int32.le_iff_toInt_le, jI_toInt ha, jI_toInt hb]
theorem jI_eq {a b : Int} (ha : r32 a) (hb : r32 b) : jI a = jI b ↔ a = b := by rw [← Int32.toInt_inj, jI_toInt ha, jI_toInt hb]
theorem jL_lt {a b : Int} (ha : r64 a) (hb : r64 b) : jL a < jL b ↔ a < b := by rw [Int64.lt_iff_toInt_lt, jL_toInt ha, jL_toInt hb]
theorem jL_eq {a b : Int} (ha : r64 a) (hb : r64 b) : jL a = jL b ↔ a = b := by rw [← Int64.toInt_inj, jL_toInt ha, jL_toInt hb]
theorem jI_inj {a b : Int} (ha : r32 a) (hb : r32 b) (h : jI a = jI b) : a = b := (jI_eq ha hb).mp h
theorem jI_0 : jI 0 = 0 := rfl
theorem jL_0 : jL 0 = 0 := rfl
theorem jI_nI (n : Nat) : jI (n : Int) = nI n := by
  show Int32.ofInt (n : Int) = Int32.ofNat n
  exact Int32.ofInt_eq_ofNat
theorem jI_nat {z : Int} (h0 : 0 ≤ z) (h : z < 2147483648) : (jI z).toNatClampNeg = z.toNat := by
  show (jI z).toInt.toNat = z.toNat
  rw [jI_toInt ⟨by omega, by omega⟩]
theorem jI_in {z : Int} {n : Nat} (h0 : 0 ≤ z) (h : z < n) (hn : n < 2147483648) : vp_in (jI z) n := by
  rw [vp_in_iff, jI_toInt ⟨by omega, by omega⟩]
  exact ⟨h0, h⟩
theorem jI_div {a b : Int} (ha : r32 a) (hb : r32 b) (h0 : b ≠ 0) : jI a / jI b = jI (a.tdiv b) := by
  refine (Int32.ofInt_tdiv ?_ ?_ ?_ ?_).symm <;> first | (show (-2147483648 : Int) ≤ _; omega) | (show _ ≤ (2147483647 : Int); omega)
theorem jL_div {a b : Int} (ha : r64 a) (hb : r64 b) (h0 : b ≠ 0) : jL a / jL b = jL (a.tdiv b) := by
  refine (Int64.ofInt_tdiv ?_ ?_ ?_ ?_).symm <;> first | (show (-9223372036854775808 : Int) ≤ _; omega) | (show _ ≤ (9223372036854775807 : Int); omega)
theorem jI_rem {a b : Int} (ha : r32 a) (hb : r32 b) (h0 : b ≠ 0) : jI a - jI a / jI b * jI b = jI (a.tmod b) := by
  rw [jI_div ha hb h0, jI_mul, jI_sub, Int.tmod_def, Int.mul_comm]
theorem jL_rem {a b : Int} (ha : r64 a) (hb : r64 b) (h0 : b ≠ 0) : jL a - jL a / jL b * jL b = jL (a.tmod b) := by
  rw [jL_div ha hb h0, jL_mul, jL_sub, Int.tmod_def, Int.mul_comm]
theorem jI_ne0 {b : Int} (hb : r32 b) (h0 : b ≠ 0) : ¬ jI b = 0 := by
  rw [← jI_0, jI_eq hb ⟨by omega, by omega⟩]
  exact h0
theorem jL_ne0 {b : Int} (hb : r64 b) (h0 : b ≠ 0) : ¬ jL b = 0 := by
  rw [← jL_0, jL_eq hb ⟨by omega, by omega⟩]
  exact h0
theorem jI_l {z : Int} (h : r32 z) : (jI z).toInt64 = jL z := by
  rw [← Int64.toInt_inj, Int32.toInt_toInt64, jI_toInt h, jL_toInt ⟨by omega, by omega⟩]
theorem jL_i (z : Int) : (jL z).toInt32 = jI z := Int64.toInt32_ofInt
theorem jI_b (z : Int) : (jI z).toInt8.toInt32 = jI (z.bmod 256) := by
  rw [← Int32.toInt_inj]
  have h := Int.bmod_lt (x := z) (m := 256) (by omega)
  have h' := Int.le_bmod (x := z) (m := 256) (by omega)
  rw [jI_toInt ⟨by omega, by omega⟩]
  show (jI z).toInt8.toInt32.toInt = _
  rw [Int8.toInt_toInt32, show (jI z).toInt8 = Int8.ofInt z from Int32.toInt8_ofInt, Int8.toInt_ofInt]
theorem jI_cmp {x y : Int} (hx : r64 x) (hy : r64 y) : lg_cmp (jL x) (jL y) = jI (if y < x then 1 else if x = y then 0 else -1) := by
  unfold lg_cmp
  simp only [gt_iff_lt, jL_lt hy hx, jL_eq hx hy]
  split
  · rfl
  · split <;> rfl
theorem jI_lit8 {n : Int} (h : -128 ≤ n ∧ n ≤ 127) : (Int8.ofInt n).toInt32 = jI n := by
  rw [← Int32.toInt_inj, Int8.toInt_toInt32, jI_toInt ⟨by omega, by omega⟩, Int8.toInt_ofInt_of_le (by omega) (by omega)]
theorem jI_lit16 {n : Int} (h : -32768 ≤ n ∧ n ≤ 32767) : (Int16.ofInt n).toInt32 = jI n := by
  rw [← Int32.toInt_inj, Int16.toInt_toInt32, jI_toInt ⟨by omega, by omega⟩, Int16.toInt_ofInt_of_le (by omega) (by omega)]
end
section
section JR
variable {γ : jG} {μ : jMth} {f mc ms cells slots : Nat} {h : jM} {pc : Nat} {lv : List (Nat × Value)} {st : List Value} {Q : Option Value → jM → Prop} {X : String → jM → Prop}
theorem J.iconst {n : Int} {pc' : Nat} (hc : μ.cm pc = some (.iconst n, 1)) (hp : pc + 1 = pc')  (kk : J γ μ f mc ms cells slots h pc' lv (.int (jI n) :: st) Q X) : J γ μ f mc ms cells slots h pc lv st Q X := by
  subst hp
  intro p e s m args below meth c C H locs ls hH hz hlo hl
  exact lv_iconst C.hx C.hb (C.dec hc) rfl (kk p e s m args below meth c C H locs ls hH hz hlo hl)
theorem J.bipush {n : Int} {pc' : Nat} (hc : μ.cm pc = some (.bipush n, 2)) (hp : pc + 2 = pc') (hn : -128 ≤ n ∧ n ≤ 127) (kk : J γ μ f mc ms cells slots h pc' lv (.int (jI n) :: st) Q X) : J γ μ f mc ms cells slots h pc lv st Q X := by
  subst hp
  intro p e s m args below meth c C H locs ls hH hz hlo hl
  exact lv_bipush C.hx C.hb (C.dec hc) (jI_lit8 hn) (kk p e s m args below meth c C H locs ls hH hz hlo hl)
theorem J.sipush {n : Int} {pc' : Nat} (hc : μ.cm pc = some (.sipush n, 3)) (hp : pc + 3 = pc') (hn : -32768 ≤ n ∧ n ≤ 32767) (kk : J γ μ f mc ms cells slots h pc' lv (.int (jI n) :: st) Q X) : J γ μ f mc ms cells slots h pc lv st Q X := by
  subst hp
  intro p e s m args below meth c C H locs ls hH hz hlo hl
  exact lv_sipush C.hx C.hb (C.dec hc) (jI_lit16 hn) (kk p e s m args below meth c C H locs ls hH hz hlo hl)
theorem J.lconst {n : Fin 2} {pc' : Nat} (hc : μ.cm pc = some (.lconst n, 1)) (hp : pc + 1 = pc')  (kk : J γ μ f mc ms cells slots h pc' lv (.long (jL (n.val : Int)) :: st) Q X) : J γ μ f mc ms cells slots h pc lv st Q X := by
  subst hp
  intro p e s m args below meth c C H locs ls hH hz hlo hl
  exact lv_lconst C.hx C.hb (C.dec hc) (by match n with | 0 => rfl | 1 => rfl) (kk p e s m args below meth c C H locs ls hH hz hlo hl)
theorem J.null  {pc' : Nat} (hc : μ.cm pc = some (.aconst_null, 1)) (hp : pc + 1 = pc')  (kk : J γ μ f mc ms cells slots h pc' lv (.null :: st) Q X) : J γ μ f mc ms cells slots h pc lv st Q X := by
  subst hp
  intro p e s m args below meth c C H locs ls hH hz hlo hl
  exact lv_null C.hx C.hb (C.dec hc) (kk p e s m args below meth c C H locs ls hH hz hlo hl)
theorem J.iload_n {k : Fin 4} {z : Int} {pc' : Nat} (hc : μ.cm pc = some (.iload_n k, 1)) (hp : pc + 1 = pc') (hg : jGet lv k.val = some (.int (jI z))) (kk : J γ μ f mc ms cells slots h pc' lv (.int (jI z) :: st) Q X) : J γ μ f mc ms cells slots h pc lv st Q X := by
  subst hp
  intro p e s m args below meth c C H locs ls hH hz hlo hl
  exact lv_iload_n C.hx C.hb (C.dec hc) rfl (jGet_at hl hg) (kk p e s m args below meth c C H locs ls hH hz hlo hl)
theorem J.lload_n {k : Fin 4} {z : Int} {pc' : Nat} (hc : μ.cm pc = some (.lload_n k, 1)) (hp : pc + 1 = pc') (hg : jGet lv k.val = some (.long (jL z))) (kk : J γ μ f mc ms cells slots h pc' lv (.long (jL z) :: st) Q X) : J γ μ f mc ms cells slots h pc lv st Q X := by
  subst hp
  intro p e s m args below meth c C H locs ls hH hz hlo hl
  exact lv_lload_n C.hx C.hb (C.dec hc) rfl (jGet_at hl hg) (kk p e s m args below meth c C H locs ls hH hz hlo hl)
theorem J.aload_n {k : Fin 4} {a : Nat} {pc' : Nat} (hc : μ.cm pc = some (.aload_n k, 1)) (hp : pc + 1 = pc') (hg : jGet lv k.val = some (.ref a)) (kk : J γ μ f mc ms cells slots h pc' lv (.ref a :: st) Q X) : J γ μ f mc ms cells slots h pc lv st Q X := by
  subst hp
  intro p e s m args below meth c C H locs ls hH hz hlo hl
  exact lv_aload_n C.hx C.hb (C.dec hc) rfl (jGet_at hl hg) (kk p e s m args below meth c C H locs ls hH hz hlo hl)
theorem J.aload_nN {k : Fin 4} {pc' : Nat} (hc : μ.cm pc = some (.aload_n k, 1)) (hp : pc + 1 = pc') (hg : jGet lv k.val = some .null) (kk : J γ μ f mc ms cells slots h pc' lv (.null :: st) Q X) : J γ μ f mc ms cells slots h pc lv st Q X := by
  subst hp
  intro p e s m args below meth c C H locs ls hH hz hlo hl
  exact lv_aload_nN C.hx C.hb (C.dec hc) rfl (jGet_at hl hg) (kk p e s m args below meth c C H locs ls hH hz hlo hl)
theorem J.istore_n {k : Fin 4} {z : Int} {pc' : Nat} (hc : μ.cm pc = some (.istore_n k, 1)) (hp : pc + 1 = pc') (hn : k.val < μ.mL) (kk : J γ μ f mc ms cells slots h pc' (jS1 lv k.val (.int (jI z))) st Q X) : J γ μ f mc ms cells slots h pc lv (.int (jI z) :: st) Q X := by
  subst hp
  intro p e s m args below meth c C H locs ls hH hz hlo hl
  exact lv_istore_n C.hx C.hb (C.dec hc) rfl hl hn rfl (fun ls hl => kk p e s m args below meth c C H locs ls hH hz hlo (jPut_has hl))
theorem J.lstore_n {k : Fin 4} {z : Int} {pc' : Nat} (hc : μ.cm pc = some (.lstore_n k, 1)) (hp : pc + 1 = pc') (hn : k.val + 1 < μ.mL) (kk : J γ μ f mc ms cells slots h pc' (jS2 lv k.val (.long (jL z))) st Q X) : J γ μ f mc ms cells slots h pc lv (.long (jL z) :: st) Q X := by
  subst hp
  intro p e s m args below meth c C H locs ls hH hz hlo hl
  exact lv_lstore_n C.hx C.hb (C.dec hc) rfl hl hn rfl (fun ls hl => kk p e s m args below meth c C H locs ls hH hz hlo (jPut_has hl))
theorem J.astore_n {k : Fin 4} {a : Nat} {pc' : Nat} (hc : μ.cm pc = some (.astore_n k, 1)) (hp : pc + 1 = pc') (hn : k.val < μ.mL) (kk : J γ μ f mc ms cells slots h pc' (jS1 lv k.val (.ref a)) st Q X) : J γ μ f mc ms cells slots h pc lv (.ref a :: st) Q X := by
  subst hp
  intro p e s m args below meth c C H locs ls hH hz hlo hl
  exact lv_astore_n C.hx C.hb (C.dec hc) rfl hl hn rfl (fun ls hl => kk p e s m args below meth c C H locs ls hH hz hlo (jPut_has hl))
theorem J.astore_nN {k : Fin 4} {pc' : Nat} (hc : μ.cm pc = some (.astore_n k, 1)) (hp : pc + 1 = pc') (hn : k.val < μ.mL) (kk : J γ μ f mc ms cells slots h pc' (jS1 lv k.val .null) st Q X) : J γ μ f mc ms cells slots h pc lv (.null :: st) Q X := by
  subst hp
  intro p e s m args below meth c C H locs ls hH hz hlo hl
  exact lv_astore_nN C.hx C.hb (C.dec hc) rfl hl hn rfl (fun ls hl => kk p e s m args below meth c C H locs ls hH hz hlo (jPut_has hl))
theorem J.iload {k : Nat} {z : Int} {pc' : Nat} (hc : μ.cm pc = some (.iload k, 2)) (hp : pc + 2 = pc') (hg : jGet lv k = some (.int (jI z))) (kk : J γ μ f mc ms cells slots h pc' lv (.int (jI z) :: st) Q X) : J γ μ f mc ms cells slots h pc lv st Q X := by
  subst hp
  intro p e s m args below meth c C H locs ls hH hz hlo hl
  exact lv_iload C.hx C.hb (C.dec hc) (jGet_at hl hg) (kk p e s m args below meth c C H locs ls hH hz hlo hl)
theorem J.lload {k : Nat} {z : Int} {pc' : Nat} (hc : μ.cm pc = some (.lload k, 2)) (hp : pc + 2 = pc') (hg : jGet lv k = some (.long (jL z))) (kk : J γ μ f mc ms cells slots h pc' lv (.long (jL z) :: st) Q X) : J γ μ f mc ms cells slots h pc lv st Q X := by
  subst hp
  intro p e s m args below meth c C H locs ls hH hz hlo hl
  exact lv_lload C.hx C.hb (C.dec hc) (jGet_at hl hg) (kk p e s m args below meth c C H locs ls hH hz hlo hl)
theorem J.aload {k : Nat} {a : Nat} {pc' : Nat} (hc : μ.cm pc = some (.aload k, 2)) (hp : pc + 2 = pc') (hg : jGet lv k = some (.ref a)) (kk : J γ μ f mc ms cells slots h pc' lv (.ref a :: st) Q X) : J γ μ f mc ms cells slots h pc lv st Q X := by
  subst hp
  intro p e s m args below meth c C H locs ls hH hz hlo hl
  exact lv_aload C.hx C.hb (C.dec hc) (jGet_at hl hg) (kk p e s m args below meth c C H locs ls hH hz hlo hl)
theorem J.aloadN {k : Nat} {pc' : Nat} (hc : μ.cm pc = some (.aload k, 2)) (hp : pc + 2 = pc') (hg : jGet lv k = some .null) (kk : J γ μ f mc ms cells slots h pc' lv (.null :: st) Q X) : J γ μ f mc ms cells slots h pc lv st Q X := by
  subst hp
  intro p e s m args below meth c C H locs ls hH hz hlo hl
  exact lv_aloadN C.hx C.hb (C.dec hc) (jGet_at hl hg) (kk p e s m args below meth c C H locs ls hH hz hlo hl)
theorem J.istore {k : Nat} {z : Int} {pc' : Nat} (hc : μ.cm pc = some (.istore k, 2)) (hp : pc + 2 = pc') (hn : k < μ.mL) (kk : J γ μ f mc ms cells slots h pc' (jS1 lv k (.int (jI z))) st Q X) : J γ μ f mc ms cells slots h pc lv (.int (jI z) :: st) Q X := by
  subst hp
  intro p e s m args below meth c C H locs ls hH hz hlo hl
  exact lv_istore C.hx C.hb (C.dec hc) hl hn rfl (fun ls hl => kk p e s m args below meth c C H locs ls hH hz hlo (jPut_has hl))
theorem J.lstore {k : Nat} {z : Int} {pc' : Nat} (hc : μ.cm pc = some (.lstore k, 2)) (hp : pc + 2 = pc') (hn : k + 1 < μ.mL) (kk : J γ μ f mc ms cells slots h pc' (jS2 lv k (.long (jL z))) st Q X) : J γ μ f mc ms cells slots h pc lv (.long (jL z) :: st) Q X := by
  subst hp
  intro p e s m args below meth c C H locs ls hH hz hlo hl
  exact lv_lstore C.hx C.hb (C.dec hc) hl hn rfl (fun ls hl => kk p e s m args below meth c C H locs ls hH hz hlo (jPut_has hl))
theorem J.astore {k : Nat} {a : Nat} {pc' : Nat} (hc : μ.cm pc = some (.astore k, 2)) (hp : pc + 2 = pc') (hn : k < μ.mL) (kk : J γ μ f mc ms cells slots h pc' (jS1 lv k (.ref a)) st Q X) : J γ μ f mc ms cells slots h pc lv (.ref a :: st) Q X := by
  subst hp
  intro p e s m args below meth c C H locs ls hH hz hlo hl
  exact lv_astore C.hx C.hb (C.dec hc) hl hn rfl (fun ls hl => kk p e s m args below meth c C H locs ls hH hz hlo (jPut_has hl))
theorem J.astoreN {k : Nat} {pc' : Nat} (hc : μ.cm pc = some (.astore k, 2)) (hp : pc + 2 = pc') (hn : k < μ.mL) (kk : J γ μ f mc ms cells slots h pc' (jS1 lv k .null) st Q X) : J γ μ f mc ms cells slots h pc lv (.null :: st) Q X := by
  subst hp
  intro p e s m args below meth c C H locs ls hH hz hlo hl
  exact lv_astoreN C.hx C.hb (C.dec hc) hl hn rfl (fun ls hl => kk p e s m args below meth c C H locs ls hH hz hlo (jPut_has hl))
theorem jGet_ix {lv : List (Nat × Value)} {i : Nat} {v : Value} (h : jGet lv i = some v) : ∃ k : Nat, lv[k]? = some (i, v) := by
  obtain ⟨k, hk⟩ := List.getElem?_of_mem (jGet_in h)
  exact ⟨k, hk⟩
theorem J.iinc {i : Nat} {n z : Int} {pc' : Nat} (hc : μ.cm pc = some (.iinc i n, 3)) (hp : pc + 3 = pc') (hg : jGet lv i = some (.int (jI z))) (hn : i < μ.mL) (kk : J γ μ f mc ms cells slots h pc' (jS1 lv i (.int (jI (z + n)))) st Q X) : J γ μ f mc ms cells slots h pc lv st Q X := by
  subst hp
  intro p e s m args below meth c C H locs ls hH hz hlo hl
  obtain ⟨k, hk⟩ := jGet_ix hg
  exact lv_iinc C.hx C.hb (C.dec hc) hl hk (jI_add z n) hn rfl (fun ls hl => kk p e s m args below meth c C H locs ls hH hz hlo (jPut_has hl))
theorem J.iadd {x y : Int} {pc' : Nat} (hc : μ.cm pc = some (.iadd, 1)) (hp : pc + 1 = pc') (kk : J γ μ f mc ms cells slots h pc' lv (.int (jI (x + y)) :: st) Q X) : J γ μ f mc ms cells slots h pc lv (.int (jI y) :: .int (jI x) :: st) Q X := by
  subst hp
  intro p e s m args below meth c C H locs ls hH hz hlo hl
  exact lv_iadd C.hx C.hb (C.dec hc) (by rw [jI_add]; exact kk p e s m args below meth c C H locs ls hH hz hlo hl)
theorem J.isub {x y : Int} {pc' : Nat} (hc : μ.cm pc = some (.isub, 1)) (hp : pc + 1 = pc') (kk : J γ μ f mc ms cells slots h pc' lv (.int (jI (x - y)) :: st) Q X) : J γ μ f mc ms cells slots h pc lv (.int (jI y) :: .int (jI x) :: st) Q X := by
  subst hp
  intro p e s m args below meth c C H locs ls hH hz hlo hl
  exact lv_isub C.hx C.hb (C.dec hc) (by rw [jI_sub]; exact kk p e s m args below meth c C H locs ls hH hz hlo hl)
theorem J.imul {x y : Int} {pc' : Nat} (hc : μ.cm pc = some (.imul, 1)) (hp : pc + 1 = pc') (kk : J γ μ f mc ms cells slots h pc' lv (.int (jI (x * y)) :: st) Q X) : J γ μ f mc ms cells slots h pc lv (.int (jI y) :: .int (jI x) :: st) Q X := by
  subst hp
  intro p e s m args below meth c C H locs ls hH hz hlo hl
  exact lv_imul C.hx C.hb (C.dec hc) (by rw [jI_mul]; exact kk p e s m args below meth c C H locs ls hH hz hlo hl)
theorem J.ladd {x y : Int} {pc' : Nat} (hc : μ.cm pc = some (.ladd, 1)) (hp : pc + 1 = pc') (kk : J γ μ f mc ms cells slots h pc' lv (.long (jL (x + y)) :: st) Q X) : J γ μ f mc ms cells slots h pc lv (.long (jL y) :: .long (jL x) :: st) Q X := by
  subst hp
  intro p e s m args below meth c C H locs ls hH hz hlo hl
  exact lv_ladd C.hx C.hb (C.dec hc) (by rw [jL_add]; exact kk p e s m args below meth c C H locs ls hH hz hlo hl)
theorem J.lsub {x y : Int} {pc' : Nat} (hc : μ.cm pc = some (.lsub, 1)) (hp : pc + 1 = pc') (kk : J γ μ f mc ms cells slots h pc' lv (.long (jL (x - y)) :: st) Q X) : J γ μ f mc ms cells slots h pc lv (.long (jL y) :: .long (jL x) :: st) Q X := by
  subst hp
  intro p e s m args below meth c C H locs ls hH hz hlo hl
  exact lv_lsub C.hx C.hb (C.dec hc) (by rw [jL_sub]; exact kk p e s m args below meth c C H locs ls hH hz hlo hl)
theorem J.lmul {x y : Int} {pc' : Nat} (hc : μ.cm pc = some (.lmul, 1)) (hp : pc + 1 = pc') (kk : J γ μ f mc ms cells slots h pc' lv (.long (jL (x * y)) :: st) Q X) : J γ μ f mc ms cells slots h pc lv (.long (jL y) :: .long (jL x) :: st) Q X := by
  subst hp
  intro p e s m args below meth c C H locs ls hH hz hlo hl
  exact lv_lmul C.hx C.hb (C.dec hc) (by rw [jL_mul]; exact kk p e s m args below meth c C H locs ls hH hz hlo hl)
theorem J.idiv {x y : Int} {pc' : Nat} (hc : μ.cm pc = some (.idiv, 1)) (hp : pc + 1 = pc') (hx : r32 x) (hy : r32 y) (h0 : y ≠ 0) (kk : J γ μ f mc ms cells slots h pc' lv (.int (jI (x.tdiv y)) :: st) Q X) : J γ μ f mc ms cells slots h pc lv (.int (jI y) :: .int (jI x) :: st) Q X := by
  subst hp
  intro p e s m args below meth c C H locs ls hH hz hlo hl
  exact lv_idiv C.hx C.hb (C.dec hc) (jI_ne0 hy h0) (by rw [jI_div hx hy h0]; exact kk p e s m args below meth c C H locs ls hH hz hlo hl)
theorem J.irem {x y : Int} {pc' : Nat} (hc : μ.cm pc = some (.irem, 1)) (hp : pc + 1 = pc') (hx : r32 x) (hy : r32 y) (h0 : y ≠ 0) (kk : J γ μ f mc ms cells slots h pc' lv (.int (jI (x.tmod y)) :: st) Q X) : J γ μ f mc ms cells slots h pc lv (.int (jI y) :: .int (jI x) :: st) Q X := by
  subst hp
  intro p e s m args below meth c C H locs ls hH hz hlo hl
  exact lv_irem C.hx C.hb (C.dec hc) (jI_ne0 hy h0) (by rw [jI_rem hx hy h0]; exact kk p e s m args below meth c C H locs ls hH hz hlo hl)
theorem J.ldiv {x y : Int} {pc' : Nat} (hc : μ.cm pc = some (.ldiv, 1)) (hp : pc + 1 = pc') (hx : r64 x) (hy : r64 y) (h0 : y ≠ 0) (kk : J γ μ f mc ms cells slots h pc' lv (.long (jL (x.tdiv y)) :: st) Q X) : J γ μ f mc ms cells slots h pc lv (.long (jL y) :: .long (jL x) :: st) Q X := by
  subst hp
  intro p e s m args below meth c C H locs ls hH hz hlo hl
  exact lv_ldiv C.hx C.hb (C.dec hc) (jL_ne0 hy h0) (by rw [jL_div hx hy h0]; exact kk p e s m args below meth c C H locs ls hH hz hlo hl)
theorem J.lrem {x y : Int} {pc' : Nat} (hc : μ.cm pc = some (.lrem, 1)) (hp : pc + 1 = pc') (hx : r64 x) (hy : r64 y) (h0 : y ≠ 0) (kk : J γ μ f mc ms cells slots h pc' lv (.long (jL (x.tmod y)) :: st) Q X) : J γ μ f mc ms cells slots h pc lv (.long (jL y) :: .long (jL x) :: st) Q X := by
  subst hp
  intro p e s m args below meth c C H locs ls hH hz hlo hl
  exact lv_lrem C.hx C.hb (C.dec hc) (jL_ne0 hy h0) (by rw [jL_rem hx hy h0]; exact kk p e s m args below meth c C H locs ls hH hz hlo hl)
theorem J.ineg {x : Int} {pc' : Nat} (hc : μ.cm pc = some (.ineg, 1)) (hp : pc + 1 = pc') (kk : J γ μ f mc ms cells slots h pc' lv (.int (jI (-x)) :: st) Q X) : J γ μ f mc ms cells slots h pc lv (.int (jI x) :: st) Q X := by
  subst hp
  intro p e s m args below meth c C H locs ls hH hz hlo hl
  exact lv_ineg C.hx C.hb (C.dec hc) (by rw [jI_neg]; exact kk p e s m args below meth c C H locs ls hH hz hlo hl)
theorem J.lneg {x : Int} {pc' : Nat} (hc : μ.cm pc = some (.lneg, 1)) (hp : pc + 1 = pc') (kk : J γ μ f mc ms cells slots h pc' lv (.long (jL (-x)) :: st) Q X) : J γ μ f mc ms cells slots h pc lv (.long (jL x) :: st) Q X := by
  subst hp
  intro p e s m args below meth c C H locs ls hH hz hlo hl
  exact lv_lneg C.hx C.hb (C.dec hc) (by rw [jL_neg]; exact kk p e s m args below meth c C H locs ls hH hz hlo hl)
theorem J.iand {x y : Int} (z : Int) {pc' : Nat} (hc : μ.cm pc = some (.iand, 1)) (hp : pc + 1 = pc') (he : jI x &&& jI y = jI z) (kk : J γ μ f mc ms cells slots h pc' lv (.int (jI z) :: st) Q X) : J γ μ f mc ms cells slots h pc lv (.int (jI y) :: .int (jI x) :: st) Q X := by
  subst hp
  intro p e s m args below meth c C H locs ls hH hz hlo hl
  exact lv_iand C.hx C.hb (C.dec hc) (by rw [he]; exact kk p e s m args below meth c C H locs ls hH hz hlo hl)
theorem J.ior {x y : Int} (z : Int) {pc' : Nat} (hc : μ.cm pc = some (.ior, 1)) (hp : pc + 1 = pc') (he : jI x ||| jI y = jI z) (kk : J γ μ f mc ms cells slots h pc' lv (.int (jI z) :: st) Q X) : J γ μ f mc ms cells slots h pc lv (.int (jI y) :: .int (jI x) :: st) Q X := by
  subst hp
  intro p e s m args below meth c C H locs ls hH hz hlo hl
  exact lv_ior C.hx C.hb (C.dec hc) (by rw [he]; exact kk p e s m args below meth c C H locs ls hH hz hlo hl)
theorem J.ixor {x y : Int} (z : Int) {pc' : Nat} (hc : μ.cm pc = some (.ixor, 1)) (hp : pc + 1 = pc') (he : jI x ^^^ jI y = jI z) (kk : J γ μ f mc ms cells slots h pc' lv (.int (jI z) :: st) Q X) : J γ μ f mc ms cells slots h pc lv (.int (jI y) :: .int (jI x) :: st) Q X := by
  subst hp
  intro p e s m args below meth c C H locs ls hH hz hlo hl
  exact lv_ixor C.hx C.hb (C.dec hc) (by rw [he]; exact kk p e s m args below meth c C H locs ls hH hz hlo hl)
theorem J.lor {x y : Int} (z : Int) {pc' : Nat} (hc : μ.cm pc = some (.lor, 1)) (hp : pc + 1 = pc') (he : jL x ||| jL y = jL z) (kk : J γ μ f mc ms cells slots h pc' lv (.long (jL z) :: st) Q X) : J γ μ f mc ms cells slots h pc lv (.long (jL y) :: .long (jL x) :: st) Q X := by
  subst hp
  intro p e s m args below meth c C H locs ls hH hz hlo hl
  exact lv_lor C.hx C.hb (C.dec hc) (by rw [he]; exact kk p e s m args below meth c C H locs ls hH hz hlo hl)
theorem J.land {x y : Int} (z : Int) {pc' : Nat} (hc : μ.cm pc = some (.land, 1)) (hp : pc + 1 = pc') (he : jL x &&& jL y = jL z) (kk : J γ μ f mc ms cells slots h pc' lv (.long (jL z) :: st) Q X) : J γ μ f mc ms cells slots h pc lv (.long (jL y) :: .long (jL x) :: st) Q X := by
  subst hp
  intro p e s m args below meth c C H locs ls hH hz hlo hl
  exact lv_land C.hx C.hb (C.dec hc) (by rw [he]; exact kk p e s m args below meth c C H locs ls hH hz hlo hl)
theorem J.ishl {x y : Int} (z : Int) {pc' : Nat} (hc : μ.cm pc = some (.ishl, 1)) (hp : pc + 1 = pc') (he : jI x <<< (jI y &&& 31) = jI z) (kk : J γ μ f mc ms cells slots h pc' lv (.int (jI z) :: st) Q X) : J γ μ f mc ms cells slots h pc lv (.int (jI y) :: .int (jI x) :: st) Q X := by
  subst hp
  intro p e s m args below meth c C H locs ls hH hz hlo hl
  exact lv_ishl C.hx C.hb (C.dec hc) (by rw [he]; exact kk p e s m args below meth c C H locs ls hH hz hlo hl)
theorem J.ishr {x y : Int} (z : Int) {pc' : Nat} (hc : μ.cm pc = some (.ishr, 1)) (hp : pc + 1 = pc') (he : jI x >>> (jI y &&& 31) = jI z) (kk : J γ μ f mc ms cells slots h pc' lv (.int (jI z) :: st) Q X) : J γ μ f mc ms cells slots h pc lv (.int (jI y) :: .int (jI x) :: st) Q X := by
  subst hp
  intro p e s m args below meth c C H locs ls hH hz hlo hl
  exact lv_ishr C.hx C.hb (C.dec hc) (by rw [he]; exact kk p e s m args below meth c C H locs ls hH hz hlo hl)
theorem J.iushr {x y : Int} (z : Int) {pc' : Nat} (hc : μ.cm pc = some (.iushr, 1)) (hp : pc + 1 = pc') (he : ((jI x).toUInt32 >>> ((jI y).toUInt32 &&& Int32.toUInt32 31)).toInt32 = jI z) (kk : J γ μ f mc ms cells slots h pc' lv (.int (jI z) :: st) Q X) : J γ μ f mc ms cells slots h pc lv (.int (jI y) :: .int (jI x) :: st) Q X := by
  subst hp
  intro p e s m args below meth c C H locs ls hH hz hlo hl
  exact lv_iushr C.hx C.hb (C.dec hc) he (kk p e s m args below meth c C H locs ls hH hz hlo hl)
theorem J.lshl {x y : Int} (z : Int) {pc' : Nat} (hc : μ.cm pc = some (.lshl, 1)) (hp : pc + 1 = pc') (he : jL x <<< ((jI y).toInt64 &&& 63) = jL z) (kk : J γ μ f mc ms cells slots h pc' lv (.long (jL z) :: st) Q X) : J γ μ f mc ms cells slots h pc lv (.int (jI y) :: .long (jL x) :: st) Q X := by
  subst hp
  intro p e s m args below meth c C H locs ls hH hz hlo hl
  exact lv_lshl C.hx C.hb (C.dec hc) he (kk p e s m args below meth c C H locs ls hH hz hlo hl)
theorem J.i2l {x : Int} {pc' : Nat} (hc : μ.cm pc = some (.i2l, 1)) (hp : pc + 1 = pc') (hx : r32 x) (kk : J γ μ f mc ms cells slots h pc' lv (.long (jL x) :: st) Q X) : J γ μ f mc ms cells slots h pc lv (.int (jI x) :: st) Q X := by
  subst hp
  intro p e s m args below meth c C H locs ls hH hz hlo hl
  exact lv_i2l C.hx C.hb (C.dec hc) (jI_l hx) (kk p e s m args below meth c C H locs ls hH hz hlo hl)
theorem J.l2i {x : Int} {pc' : Nat} (hc : μ.cm pc = some (.l2i, 1)) (hp : pc + 1 = pc')  (kk : J γ μ f mc ms cells slots h pc' lv (.int (jI x) :: st) Q X) : J γ μ f mc ms cells slots h pc lv (.long (jL x) :: st) Q X := by
  subst hp
  intro p e s m args below meth c C H locs ls hH hz hlo hl
  exact lv_l2i C.hx C.hb (C.dec hc) (jL_i x) (kk p e s m args below meth c C H locs ls hH hz hlo hl)
theorem J.i2b {x : Int} {pc' : Nat} (hc : μ.cm pc = some (.i2b, 1)) (hp : pc + 1 = pc')  (kk : J γ μ f mc ms cells slots h pc' lv (.int (jI (x.bmod 256)) :: st) Q X) : J γ μ f mc ms cells slots h pc lv (.int (jI x) :: st) Q X := by
  subst hp
  intro p e s m args below meth c C H locs ls hH hz hlo hl
  exact lv_i2b C.hx C.hb (C.dec hc) (jI_b x) (kk p e s m args below meth c C H locs ls hH hz hlo hl)
theorem J.i2c {x : Int} (z : Int) {pc' : Nat} (hc : μ.cm pc = some (.i2c, 1)) (hp : pc + 1 = pc') (he : ((jI x).toUInt32 % 65536).toInt32 = jI z) (kk : J γ μ f mc ms cells slots h pc' lv (.int (jI z) :: st) Q X) : J γ μ f mc ms cells slots h pc lv (.int (jI x) :: st) Q X := by
  subst hp
  intro p e s m args below meth c C H locs ls hH hz hlo hl
  exact lv_i2c C.hx C.hb (C.dec hc) he (kk p e s m args below meth c C H locs ls hH hz hlo hl)
theorem J.lcmp {x y : Int} {pc' : Nat} (hc : μ.cm pc = some (.lcmp, 1)) (hp : pc + 1 = pc') (hx : r64 x) (hy : r64 y) (kk : J γ μ f mc ms cells slots h pc' lv (.int (jI (if y < x then 1 else if x = y then 0 else -1)) :: st) Q X) : J γ μ f mc ms cells slots h pc lv (.long (jL y) :: .long (jL x) :: st) Q X := by
  subst hp
  intro p e s m args below meth c C H locs ls hH hz hlo hl
  exact W.lcmp C.hx C.hb (C.dec hc) (by rw [jI_cmp hx hy]; exact (kk p e s m args below meth c C H locs ls hH hz hlo hl))
theorem J.dup {v : Value} {pc' : Nat} (hc : μ.cm pc = some (.dup, 1)) (hp : pc + 1 = pc') (hv : v.category = 1) (kk : J γ μ f mc ms cells slots h pc' lv (v :: v :: st) Q X) : J γ μ f mc ms cells slots h pc lv (v :: st) Q X := by
  subst hp
  intro p e s m args below meth c C H locs ls hH hz hlo hl
  exact lv_dup C.hx C.hb (C.dec hc) hv (kk p e s m args below meth c C H locs ls hH hz hlo hl)
theorem J.pop {v : Value} {pc' : Nat} (hc : μ.cm pc = some (.pop, 1)) (hp : pc + 1 = pc') (hv : v.category = 1) (kk : J γ μ f mc ms cells slots h pc' lv st Q X) : J γ μ f mc ms cells slots h pc lv (v :: st) Q X := by
  subst hp
  intro p e s m args below meth c C H locs ls hH hz hlo hl
  exact lv_pop C.hx C.hb (C.dec hc) hv (kk p e s m args below meth c C H locs ls hH hz hlo hl)
theorem J.dup_x1 {v w : Value} {pc' : Nat} (hc : μ.cm pc = some (.dup_x1, 1)) (hp : pc + 1 = pc') (hv : v.category = 1) (hw : w.category = 1) (kk : J γ μ f mc ms cells slots h pc' lv (v :: w :: v :: st) Q X) : J γ μ f mc ms cells slots h pc lv (v :: w :: st) Q X := by
  subst hp
  intro p e s m args below meth c C H locs ls hH hz hlo hl
  exact lv_dup_x1 C.hx C.hb (C.dec hc) hv hw (kk p e s m args below meth c C H locs ls hH hz hlo hl)
theorem J.dup2 {v w : Value} {pc' : Nat} (hc : μ.cm pc = some (.dup2, 1)) (hp : pc + 1 = pc') (hv : v.category = 1) (hw : w.category = 1) (kk : J γ μ f mc ms cells slots h pc' lv (v :: w :: v :: w :: st) Q X) : J γ μ f mc ms cells slots h pc lv (v :: w :: st) Q X := by
  subst hp
  intro p e s m args below meth c C H locs ls hH hz hlo hl
  exact lv_dup2_11 C.hx C.hb (C.dec hc) hv hw (kk p e s m args below meth c C H locs ls hH hz hlo hl)
theorem J.dup2L {v : Value} {pc' : Nat} (hc : μ.cm pc = some (.dup2, 1)) (hp : pc + 1 = pc') (hv : v.category = 2) (kk : J γ μ f mc ms cells slots h pc' lv (v :: v :: st) Q X) : J γ μ f mc ms cells slots h pc lv (v :: st) Q X := by
  subst hp
  intro p e s m args below meth c C H locs ls hH hz hlo hl
  exact lv_dup2_2 C.hx C.hb (C.dec hc) hv (kk p e s m args below meth c C H locs ls hH hz hlo hl)
theorem J.pop2L {v : Value} {pc' : Nat} (hc : μ.cm pc = some (.pop2, 1)) (hp : pc + 1 = pc') (hv : v.category = 2) (kk : J γ μ f mc ms cells slots h pc' lv st Q X) : J γ μ f mc ms cells slots h pc lv (v :: st) Q X := by
  subst hp
  intro p e s m args below meth c C H locs ls hH hz hlo hl
  exact lv_pop2_2 C.hx C.hb (C.dec hc) hv (kk p e s m args below meth c C H locs ls hH hz hlo hl)
theorem J.goto {off : Int} {tgt : Nat} (hc : μ.cm pc = some (.goto off, 3)) (ht : (pc : Int) + off = (tgt : Int)) (kk : J γ μ f mc ms cells slots h tgt lv st Q X) : J γ μ f mc ms cells slots h pc lv st Q X := by
  intro p e s m args below meth c C H locs ls hH hz hlo hl
  exact lv_goto C.hx C.hb (C.dec hc) ht (kk p e s m args below meth c C H locs ls hH hz hlo hl)
theorem J.icmp_eq {x y : Int} {off : Int} {tgt pc' : Nat} (hc : μ.cm pc = some (.if_icmp .eq off, 3)) (ht : (pc : Int) + off = (tgt : Int)) (hp : pc + 3 = pc') (hx : r32 x) (hy : r32 y) (kt : x = y → J γ μ f mc ms cells slots h tgt lv st Q X) (kf : ¬ x = y → J γ μ f mc ms cells slots h pc' lv st Q X) : J γ μ f mc ms cells slots h pc lv (.int (jI y) :: .int (jI x) :: st) Q X := by
  subst hp
  intro p e s m args below meth c C H locs ls hH hz hlo hl
  exact lv_icmp_eq C.hx C.hb (C.dec hc) ht (fun q => kt ((jI_eq hx hy).mp q) p e s m args below meth c C H locs ls hH hz hlo hl) (fun q => kf (fun w => q ((jI_eq hx hy).mpr w)) p e s m args below meth c C H locs ls hH hz hlo hl)
theorem J.if_eq {x : Int} {off : Int} {tgt pc' : Nat} (hc : μ.cm pc = some (.ifCond .eq off, 3)) (ht : (pc : Int) + off = (tgt : Int)) (hp : pc + 3 = pc') (hx : r32 x) (kt : x = 0 → J γ μ f mc ms cells slots h tgt lv st Q X) (kf : ¬ x = 0 → J γ μ f mc ms cells slots h pc' lv st Q X) : J γ μ f mc ms cells slots h pc lv (.int (jI x) :: st) Q X := by
  subst hp
  intro p e s m args below meth c C H locs ls hH hz hlo hl
  have hy : r32 0 := ⟨by omega, by omega⟩
  exact lv_if_eq C.hx C.hb (C.dec hc) ht (fun q => kt ((jI_eq hx hy).mp q) p e s m args below meth c C H locs ls hH hz hlo hl) (fun q => kf (fun w => q ((jI_eq hx hy).mpr w)) p e s m args below meth c C H locs ls hH hz hlo hl)
theorem J.icmp_ne {x y : Int} {off : Int} {tgt pc' : Nat} (hc : μ.cm pc = some (.if_icmp .ne off, 3)) (ht : (pc : Int) + off = (tgt : Int)) (hp : pc + 3 = pc') (hx : r32 x) (hy : r32 y) (kt : ¬ x = y → J γ μ f mc ms cells slots h tgt lv st Q X) (kf : x = y → J γ μ f mc ms cells slots h pc' lv st Q X) : J γ μ f mc ms cells slots h pc lv (.int (jI y) :: .int (jI x) :: st) Q X := by
  subst hp
  intro p e s m args below meth c C H locs ls hH hz hlo hl
  exact lv_icmp_ne C.hx C.hb (C.dec hc) ht (fun q => kt (fun w => q ((jI_eq hx hy).mpr w)) p e s m args below meth c C H locs ls hH hz hlo hl) (fun q => kf ((jI_eq hx hy).mp q) p e s m args below meth c C H locs ls hH hz hlo hl)
theorem J.if_ne {x : Int} {off : Int} {tgt pc' : Nat} (hc : μ.cm pc = some (.ifCond .ne off, 3)) (ht : (pc : Int) + off = (tgt : Int)) (hp : pc + 3 = pc') (hx : r32 x) (kt : ¬ x = 0 → J γ μ f mc ms cells slots h tgt lv st Q X) (kf : x = 0 → J γ μ f mc ms cells slots h pc' lv st Q X) : J γ μ f mc ms cells slots h pc lv (.int (jI x) :: st) Q X := by
  subst hp
  intro p e s m args below meth c C H locs ls hH hz hlo hl
  have hy : r32 0 := ⟨by omega, by omega⟩
  exact lv_if_ne C.hx C.hb (C.dec hc) ht (fun q => kt (fun w => q ((jI_eq hx hy).mpr w)) p e s m args below meth c C H locs ls hH hz hlo hl) (fun q => kf ((jI_eq hx hy).mp q) p e s m args below meth c C H locs ls hH hz hlo hl)
theorem J.icmp_lt {x y : Int} {off : Int} {tgt pc' : Nat} (hc : μ.cm pc = some (.if_icmp .lt off, 3)) (ht : (pc : Int) + off = (tgt : Int)) (hp : pc + 3 = pc') (hx : r32 x) (hy : r32 y) (kt : x < y → J γ μ f mc ms cells slots h tgt lv st Q X) (kf : ¬ x < y → J γ μ f mc ms cells slots h pc' lv st Q X) : J γ μ f mc ms cells slots h pc lv (.int (jI y) :: .int (jI x) :: st) Q X := by
  subst hp
  intro p e s m args below meth c C H locs ls hH hz hlo hl
  exact lv_icmp_lt C.hx C.hb (C.dec hc) ht (fun q => kt ((jI_lt hx hy).mp q) p e s m args below meth c C H locs ls hH hz hlo hl) (fun q => kf (fun w => q ((jI_lt hx hy).mpr w)) p e s m args below meth c C H locs ls hH hz hlo hl)
theorem J.if_lt {x : Int} {off : Int} {tgt pc' : Nat} (hc : μ.cm pc = some (.ifCond .lt off, 3)) (ht : (pc : Int) + off = (tgt : Int)) (hp : pc + 3 = pc') (hx : r32 x) (kt : x < 0 → J γ μ f mc ms cells slots h tgt lv st Q X) (kf : ¬ x < 0 → J γ μ f mc ms cells slots h pc' lv st Q X) : J γ μ f mc ms cells slots h pc lv (.int (jI x) :: st) Q X := by
  subst hp
  intro p e s m args below meth c C H locs ls hH hz hlo hl
  have hy : r32 0 := ⟨by omega, by omega⟩
  exact lv_if_lt C.hx C.hb (C.dec hc) ht (fun q => kt ((jI_lt hx hy).mp q) p e s m args below meth c C H locs ls hH hz hlo hl) (fun q => kf (fun w => q ((jI_lt hx hy).mpr w)) p e s m args below meth c C H locs ls hH hz hlo hl)
theorem J.icmp_ge {x y : Int} {off : Int} {tgt pc' : Nat} (hc : μ.cm pc = some (.if_icmp .ge off, 3)) (ht : (pc : Int) + off = (tgt : Int)) (hp : pc + 3 = pc') (hx : r32 x) (hy : r32 y) (kt : y ≤ x → J γ μ f mc ms cells slots h tgt lv st Q X) (kf : ¬ y ≤ x → J γ μ f mc ms cells slots h pc' lv st Q X) : J γ μ f mc ms cells slots h pc lv (.int (jI y) :: .int (jI x) :: st) Q X := by
  subst hp
  intro p e s m args below meth c C H locs ls hH hz hlo hl
  exact lv_icmp_ge C.hx C.hb (C.dec hc) ht (fun q => kt ((jI_le hy hx).mp q) p e s m args below meth c C H locs ls hH hz hlo hl) (fun q => kf (fun w => q ((jI_le hy hx).mpr w)) p e s m args below meth c C H locs ls hH hz hlo hl)
theorem J.if_ge {x : Int} {off : Int} {tgt pc' : Nat} (hc : μ.cm pc = some (.ifCond .ge off, 3)) (ht : (pc : Int) + off = (tgt : Int)) (hp : pc + 3 = pc') (hx : r32 x) (kt : 0 ≤ x → J γ μ f mc ms cells slots h tgt lv st Q X) (kf : ¬ 0 ≤ x → J γ μ f mc ms cells slots h pc' lv st Q X) : J γ μ f mc ms cells slots h pc lv (.int (jI x) :: st) Q X := by
  subst hp
  intro p e s m args below meth c C H locs ls hH hz hlo hl
  have hy : r32 0 := ⟨by omega, by omega⟩
  exact lv_if_ge C.hx C.hb (C.dec hc) ht (fun q => kt ((jI_le hy hx).mp q) p e s m args below meth c C H locs ls hH hz hlo hl) (fun q => kf (fun w => q ((jI_le hy hx).mpr w)) p e s m args below meth c C H locs ls hH hz hlo hl)
theorem J.icmp_gt {x y : Int} {off : Int} {tgt pc' : Nat} (hc : μ.cm pc = some (.if_icmp .gt off, 3)) (ht : (pc : Int) + off = (tgt : Int)) (hp : pc + 3 = pc') (hx : r32 x) (hy : r32 y) (kt : y < x → J γ μ f mc ms cells slots h tgt lv st Q X) (kf : ¬ y < x → J γ μ f mc ms cells slots h pc' lv st Q X) : J γ μ f mc ms cells slots h pc lv (.int (jI y) :: .int (jI x) :: st) Q X := by
  subst hp
  intro p e s m args below meth c C H locs ls hH hz hlo hl
  exact lv_icmp_gt C.hx C.hb (C.dec hc) ht (fun q => kt ((jI_lt hy hx).mp q) p e s m args below meth c C H locs ls hH hz hlo hl) (fun q => kf (fun w => q ((jI_lt hy hx).mpr w)) p e s m args below meth c C H locs ls hH hz hlo hl)
theorem J.if_gt {x : Int} {off : Int} {tgt pc' : Nat} (hc : μ.cm pc = some (.ifCond .gt off, 3)) (ht : (pc : Int) + off = (tgt : Int)) (hp : pc + 3 = pc') (hx : r32 x) (kt : 0 < x → J γ μ f mc ms cells slots h tgt lv st Q X) (kf : ¬ 0 < x → J γ μ f mc ms cells slots h pc' lv st Q X) : J γ μ f mc ms cells slots h pc lv (.int (jI x) :: st) Q X := by
  subst hp
  intro p e s m args below meth c C H locs ls hH hz hlo hl
  have hy : r32 0 := ⟨by omega, by omega⟩
  exact lv_if_gt C.hx C.hb (C.dec hc) ht (fun q => kt ((jI_lt hy hx).mp q) p e s m args below meth c C H locs ls hH hz hlo hl) (fun q => kf (fun w => q ((jI_lt hy hx).mpr w)) p e s m args below meth c C H locs ls hH hz hlo hl)
theorem J.icmp_le {x y : Int} {off : Int} {tgt pc' : Nat} (hc : μ.cm pc = some (.if_icmp .le off, 3)) (ht : (pc : Int) + off = (tgt : Int)) (hp : pc + 3 = pc') (hx : r32 x) (hy : r32 y) (kt : x ≤ y → J γ μ f mc ms cells slots h tgt lv st Q X) (kf : ¬ x ≤ y → J γ μ f mc ms cells slots h pc' lv st Q X) : J γ μ f mc ms cells slots h pc lv (.int (jI y) :: .int (jI x) :: st) Q X := by
  subst hp
  intro p e s m args below meth c C H locs ls hH hz hlo hl
  exact lv_icmp_le C.hx C.hb (C.dec hc) ht (fun q => kt ((jI_le hx hy).mp q) p e s m args below meth c C H locs ls hH hz hlo hl) (fun q => kf (fun w => q ((jI_le hx hy).mpr w)) p e s m args below meth c C H locs ls hH hz hlo hl)
theorem J.if_le {x : Int} {off : Int} {tgt pc' : Nat} (hc : μ.cm pc = some (.ifCond .le off, 3)) (ht : (pc : Int) + off = (tgt : Int)) (hp : pc + 3 = pc') (hx : r32 x) (kt : x ≤ 0 → J γ μ f mc ms cells slots h tgt lv st Q X) (kf : ¬ x ≤ 0 → J γ μ f mc ms cells slots h pc' lv st Q X) : J γ μ f mc ms cells slots h pc lv (.int (jI x) :: st) Q X := by
  subst hp
  intro p e s m args below meth c C H locs ls hH hz hlo hl
  have hy : r32 0 := ⟨by omega, by omega⟩
  exact lv_if_le C.hx C.hb (C.dec hc) ht (fun q => kt ((jI_le hx hy).mp q) p e s m args below meth c C H locs ls hH hz hlo hl) (fun q => kf (fun w => q ((jI_le hx hy).mpr w)) p e s m args below meth c C H locs ls hH hz hlo hl)
theorem J.ifnull {x : Nat} {off : Int} {pc' : Nat} (hc : μ.cm pc = some (.ifnull off, 3)) (hp : pc + 3 = pc') (kk : J γ μ f mc ms cells slots h pc' lv st Q X) : J γ μ f mc ms cells slots h pc lv (.ref x :: st) Q X := by
  intro p e s m args below meth c C H locs ls hH hz hlo hl
  subst hp; exact lv_ifnull C.hx C.hb (C.dec hc) (kk p e s m args below meth c C H locs ls hH hz hlo hl)
theorem J.ifnullN {off : Int} {tgt : Nat} (hc : μ.cm pc = some (.ifnull off, 3)) (ht : (pc : Int) + off = (tgt : Int)) (kk : J γ μ f mc ms cells slots h tgt lv st Q X) : J γ μ f mc ms cells slots h pc lv (.null :: st) Q X := by
  intro p e s m args below meth c C H locs ls hH hz hlo hl
  exact lv_ifnullN C.hx C.hb (C.dec hc) ht (kk p e s m args below meth c C H locs ls hH hz hlo hl)
theorem J.ifnonnull {x : Nat} {off : Int} {tgt : Nat} (hc : μ.cm pc = some (.ifnonnull off, 3)) (ht : (pc : Int) + off = (tgt : Int)) (kk : J γ μ f mc ms cells slots h tgt lv st Q X) : J γ μ f mc ms cells slots h pc lv (.ref x :: st) Q X := by
  intro p e s m args below meth c C H locs ls hH hz hlo hl
  exact lv_ifnonnull C.hx C.hb (C.dec hc) ht (kk p e s m args below meth c C H locs ls hH hz hlo hl)
theorem J.ifnonnullN {off : Int} {pc' : Nat} (hc : μ.cm pc = some (.ifnonnull off, 3)) (hp : pc + 3 = pc') (kk : J γ μ f mc ms cells slots h pc' lv st Q X) : J γ μ f mc ms cells slots h pc lv (.null :: st) Q X := by
  intro p e s m args below meth c C H locs ls hH hz hlo hl
  subst hp; exact lv_ifnonnullN C.hx C.hb (C.dec hc) (kk p e s m args below meth c C H locs ls hH hz hlo hl)
theorem J.acmp_eq {rx ry : Option Nat} {off : Int} {tgt pc' : Nat} (hc : μ.cm pc = some (.if_acmp .eq off, 3)) (ht : (pc : Int) + off = (tgt : Int)) (hp : pc + 3 = pc') (kt : rx = ry → J γ μ f mc ms cells slots h tgt lv st Q X) (kf : ¬ rx = ry → J γ μ f mc ms cells slots h pc' lv st Q X) : J γ μ f mc ms cells slots h pc lv (va_rf ry :: va_rf rx :: st) Q X := by
  intro p e s m args below meth c C H locs ls hH hz hlo hl
  subst hp; exact lv_acmp_eq C.hx C.hb (C.dec hc) ht (fun q => kt q p e s m args below meth c C H locs ls hH hz hlo hl) (fun q => kf q p e s m args below meth c C H locs ls hH hz hlo hl)
theorem J.acmp_ne {rx ry : Option Nat} {off : Int} {tgt pc' : Nat} (hc : μ.cm pc = some (.if_acmp .ne off, 3)) (ht : (pc : Int) + off = (tgt : Int)) (hp : pc + 3 = pc') (kt : ¬ rx = ry → J γ μ f mc ms cells slots h tgt lv st Q X) (kf : rx = ry → J γ μ f mc ms cells slots h pc' lv st Q X) : J γ μ f mc ms cells slots h pc lv (va_rf ry :: va_rf rx :: st) Q X := by
  intro p e s m args below meth c C H locs ls hH hz hlo hl
  subst hp; exact lv_acmp_ne C.hx C.hb (C.dec hc) ht (fun q => kt q p e s m args below meth c C H locs ls hH hz hlo hl) (fun q => kf q p e s m args below meth c C H locs ls hH hz hlo hl)
theorem J.locs {lv' : List (Nat × Value)} (hs : ∀ q ∈ lv', jGet lv q.1 = some q.2) (kk : J γ μ f mc ms cells slots h pc lv' st Q X) : J γ μ f mc ms cells slots h pc lv st Q X := by
  intro p e s m args below meth c C H locs ls hH hz hlo hl
  exact kk p e s m args below meth c C H locs ls hH hz hlo (jSub_has hl hs)
theorem J.widen {cells' slots' : Nat} (h1 : cells ≤ cells') (h2 : slots ≤ slots') (kk : J γ μ f mc ms cells' slots' h pc lv st Q X) : J γ μ f mc ms cells slots h pc lv st Q X := by
  intro p e s m args below meth c C H locs ls hH hz hlo hl
  exact W.widen h1 h2 (kk p e s m args below meth c C H locs ls hH hz hlo hl)
theorem J.tableOut {dflt lo hi : Int} {offs : Array Int} {len : Nat} {x : Int} {tgt : Nat} (hc : μ.cm pc = some (.tableswitch dflt lo hi offs, len)) (hx : r32 x) (hh : x < lo ∨ hi < x) (ht : (pc : Int) + dflt = (tgt : Int)) (kk : J γ μ f mc ms cells slots h tgt lv st Q X) : J γ μ f mc ms cells slots h pc lv (.int (jI x) :: st) Q X := by
  intro p e s m args below meth c C H locs ls hH hz hlo hl
  exact lv_tableOut C.hx C.hb (C.dec hc) (by rw [jI_toInt hx]; exact hh) ht (kk p e s m args below meth c C H locs ls hH hz hlo hl)
theorem J.tableIn {dflt lo hi : Int} {offs : Array Int} {len : Nat} {x off : Int} {tgt : Nat} (hc : μ.cm pc = some (.tableswitch dflt lo hi offs, len)) (hx : r32 x) (h1 : ¬ x < lo) (h2 : ¬ hi < x) (ho : offs[(x - lo).toNat]? = some off) (ht : (pc : Int) + off = (tgt : Int)) (kk : J γ μ f mc ms cells slots h tgt lv st Q X) : J γ μ f mc ms cells slots h pc lv (.int (jI x) :: st) Q X := by
  intro p e s m args below meth c C H locs ls hH hz hlo hl
  exact lv_tableIn C.hx C.hb (C.dec hc) (by rw [jI_toInt hx]; exact h1) (by rw [jI_toInt hx]; exact h2) (by rw [jI_toInt hx]; exact ho) ht (kk p e s m args below meth c C H locs ls hH hz hlo hl)
theorem J.iret {z : Int} (hc : μ.cm pc = some (.ireturn, 1)) (hr : μ.ret = some .int) (hm : cells ≤ mc) (hs : slots ≤ ms) (hq : Q (some (.int (jI z))) h) : J γ μ f mc ms cells slots h pc lv [.int (jI z)] Q X := by
  intro p e s m args below meth c C H locs ls hH hz hlo hl
  have hlocks := C.locks
  refine W.widen hm hs (vx_ret ?_)
  exact W.iret C.hx C.hb (C.hr.trans hr) (fun t ht hW => ⟨_, h, rfl, hq, by rw [ht]; exact hH⟩) hlo (C.dec hc)
theorem J.lret {z : Int} (hc : μ.cm pc = some (.lreturn, 1)) (hr : μ.ret = some .long) (hm : cells ≤ mc) (hs : slots ≤ ms) (hq : Q (some (.long (jL z))) h) : J γ μ f mc ms cells slots h pc lv [.long (jL z)] Q X := by
  intro p e s m args below meth c C H locs ls hH hz hlo hl
  have hlocks := C.locks
  refine W.widen hm hs (vx_ret ?_)
  exact W.lret C.hx C.hb (C.hr.trans hr) (fun t ht hW => ⟨_, h, rfl, hq, by rw [ht]; exact hH⟩) hlo (C.dec hc)
theorem J.zret {z : Int} {ty : FieldType} (hc : μ.cm pc = some (.ireturn, 1)) (hr : μ.ret = some ty) (hn : narrow ty (.int (jI z)) = .int (jI z)) (hm : cells ≤ mc) (hs : slots ≤ ms) (hq : Q (some (.int (jI z))) h) : J γ μ f mc ms cells slots h pc lv [.int (jI z)] Q X := by
  intro p e s m args below meth c C H locs ls hH hz hlo hl
  have hlocks := C.locks
  refine W.widen hm hs (vx_ret ?_)
  exact W.zret C.hx C.hb (C.hr.trans hr) hn (fun t ht hW => ⟨_, h, rfl, hq, by rw [ht]; exact hH⟩) hlo (C.dec hc)
theorem J.vret (hc : μ.cm pc = some (.return_, 1)) (hr : μ.ret = none) (hm : cells ≤ mc) (hs : slots ≤ ms) (hq : Q none h) : J γ μ f mc ms cells slots h pc lv [] Q X := by
  intro p e s m args below meth c C H locs ls hH hz hlo hl
  have hlocks := C.locks
  refine W.widen hm hs (vx_ret ?_)
  exact W.vret C.hx C.hb (C.hr.trans hr) (fun t ht hW => ⟨_, h, rfl, hq, by rw [ht]; exact hH⟩) hlo (C.dec hc)
theorem J.aret {a : Nat} {rt : FieldType} (hc : μ.cm pc = some (.areturn, 1)) (hr : μ.ret = some rt) (hk : jKr rt = true) (hm : cells ≤ mc) (hs : slots ≤ ms) (hq : Q (some (.ref a)) h) : J γ μ f mc ms cells slots h pc lv [.ref a] Q X := by
  intro p e s m args below meth c C H locs ls hH hz hlo hl
  have hlocks := C.locks
  refine W.widen hm hs (vx_ret ?_)
  exact W.aret C.hx C.hb (C.hr.trans hr) (by cases rt <;> first | exact Or.inl ⟨_, rfl⟩ | exact Or.inr ⟨_, rfl⟩ | (simp [jKr] at hk)) (Or.inr ⟨_, rfl⟩) (fun t ht hW => ⟨_, h, rfl, hq, by rw [ht]; exact hH⟩) hlo (C.dec hc)
theorem J.aretN {rt : FieldType} (hc : μ.cm pc = some (.areturn, 1)) (hr : μ.ret = some rt) (hk : jKr rt = true) (hm : cells ≤ mc) (hs : slots ≤ ms) (hq : Q (some .null) h) : J γ μ f mc ms cells slots h pc lv [.null] Q X := by
  intro p e s m args below meth c C H locs ls hH hz hlo hl
  have hlocks := C.locks
  refine W.widen hm hs (vx_ret ?_)
  exact W.aret C.hx C.hb (C.hr.trans hr) (by cases rt <;> first | exact Or.inl ⟨_, rfl⟩ | exact Or.inr ⟨_, rfl⟩ | (simp [jKr] at hk)) (Or.inl rfl) (fun t ht hW => ⟨_, h, rfl, hq, by rw [ht]; exact hH⟩) hlo (C.dec hc)
end JR
end
section

theorem jI_inr {z : Int} {n : Nat} (hz : r32 z) (h0 : 0 ≤ z) (h : z < n) : vp_in (jI z) n := by
  rw [vp_in_iff, jI_toInt hz]
  exact ⟨h0, h⟩
theorem jI_ix {z : Int} (hz : r32 z) (h0 : 0 ≤ z) : (jI z).toNatClampNeg = z.toNat := jI_nat h0 (by omega)
def jFl (own : String) (idx t k : Nat) : Prop := 0 < t ∧ t < 20 ∧ ∃ q : vw_C, vwCl[t - 1]? = some q ∧ k < q.2.2 ∧
  ((∃ ref, Cond.fieldLink own idx ref (q.2.1 k).2.1 (q.2.1 k).2.2.1 ∈ lw_tbl ∧ (ref = (q.2.1 k).1 ∨ (Cond.sameField ref (q.2.1 k).1 (q.2.1 k).2.1 (q.2.1 k).2.2.1 ∈ lw_tbl ∧ goodWord (Cond.sameField ref (q.2.1 k).1 (q.2.1 k).2.1 (q.2.1 k).2.2.1) = true))) ∨
    ∃ host, Cond.fieldLinkNest own idx (q.2.1 k).1 (q.2.1 k).2.1 (q.2.1 k).2.2.1 host ∈ lw_tbl)
def jFin (t k : Nat) : Bool := match vwCl[t - 1]? with
  | some q => (q.2.1 k).2.2.2
  | none => true
def jDecl (t k : Nat) : String := match vwCl[t - 1]? with
  | some q => (q.2.1 k).1
  | none => ""
section HP
variable {γ : jG} {μ : jMth} {p : Program} {e : Env} {R : Room} {s : State} {m : MethodId} {args : Array Value} {below : List Frame} {meth : Method} {c : Code} {H : Heap} {locs : List Loc} {cells slots : Nat} {QQ : State → Prop} {h : jM} {pc : Nat} {ls : Array Slot} {st : List Value}
theorem jC.lays (C : jC γ μ p s m meth c) {i : Nat} {q : vw_C} (hq : vwCl[i]? = some q) : ∀ w ∈ u_ws q.1 q.2.1 q.2.2, w.before args s = true := fun w hw => C.w (jLays hq w hw).1 (jLays hq w hw).2
theorem jGetF (C : jC γ μ p s m meth c) (hH : jRH γ h H) {idx t k a : Nat} (hf : jFl μ.y.cls idx t k) (ha : h.tag a = t) (hd : decode μ.cc pc = .ok (.getfield idx, 3))
    (kk : W p γ.l e R s m args below meth c H locs cells slots QQ (F0 m (pc + 3) ls (jV h t a k :: st))) : W p γ.l e R s m args below meth c H locs cells slots QQ (F0 m pc ls (.ref a :: st)) := by
  obtain ⟨ht0, ht1, q, hq, hk, hl⟩ := hf
  obtain ⟨q', hq', -, cell, q1, q2, q3, q4⟩ := (hH.2.2 a (by omega)).1 (by omega)
  rw [ha] at hq' q2 q4
  cases hq.symm.trans hq'
  obtain ⟨hS, hfc, kC, hkC, hkind⟩ := C.K.1 (t - 1) _ hq
  obtain ⟨cf, kf, fi, f, hi, hsl⟩ := hS k hk
  have hlay := u_lays (args := args) (C.lays hq) (fun _ h => h) hk
  have hst := (u_facts hfc hkC hlay hi).1
  have hv : cell.slots[f.slot]? = some (jV h t a k) := by rw [hsl]; exact q4 k hk
  have hkn : cell.vm ≠ .unknown := by rw [q3]; exact fun h => by cases h
  rcases hl with ⟨ref, hw, hs⟩ | ⟨host, hw⟩
  · have hlink : (Cond.fieldLink μ.y.cls idx ref (q.2.1 k).2.1 (q.2.1 k).2.2.1).before args s = true := C.w hw rfl
    have hi' : s.fieldFound? ref (q.2.1 k).2.1 (q.2.1 k).2.2.1 = some (cf, kf, fi, f) := by
      rcases hs with rfl | ⟨hs, hg⟩
      · exact hi
      · exact u_same (args := args) (C.w hs hg) _ hi
    exact W.getf C.hx C.hb C.hown hlink hi' hst q1 hkn hv rfl rfl hd kk
  · exact va_Wgetf C.hx C.hb C.hown (C.wN (args := args) hw) hi hst q1 hkn hv rfl rfl hd kk
theorem jC.apart (C : jC γ μ p s m meth c) {t : Nat} {q : vw_C} (ht : 0 < t) (hq : vwCl[t - 1]? = some q) : ∀ x y, x < q.2.2 → y < q.2.2 → x ≠ y → γ.D.2 (t - 1) x ≠ γ.D.2 (t - 1) y :=
  va_apart (args := #[]) (own := "") (C := q.1) (T := q.2.1) (N := q.2.2) (C.lays hq) (fun _ h => h) (jTy (t - 1 + 1)) (jTyOk hq) (jNm hq) C.K hq
theorem jPutF (C : jC γ μ p s m meth c) (hH : jRH γ h H) {idx t k a : Nat} {v : Value} {h' : jM} (hf : jFl μ.y.cls idx t k) (hfin : jFin t k = false ∨ (jFin t k = true ∧ μ.y.name = "<init>" ∧ jDecl t k = μ.y.cls)) (ha : h.tag a = t) (hb : jWr t = true ∨ γ.base ≤ a) (hn : narrow (jTy t k) v = v) (hfit : fits (jTy t k) v = true) (hd : decode μ.cc pc = .ok (.putfield idx, 3))
    (ht : h'.tag = h.tag) (hl' : h'.len = h.len) (hv : ∀ b, b ≠ a → ∀ t, jV h' t b = jV h t b) (hu : jV h' t a = updV (jV h t a) k v) (hlo : ∀ q ∈ locs, γ.base ≤ q.base)
    (kk : ∀ (H' : Heap) (locs' : List Loc), jRH γ h' H' → H'.size = H.size → (∀ q ∈ locs', γ.base ≤ q.base) → W p γ.l e R s m args below meth c H' locs' cells slots QQ (F0 m (pc + 3) ls st)) : W p γ.l e R s m args below meth c H locs cells slots QQ (F0 m pc ls (v :: .ref a :: st)) := by
  obtain ⟨ht0, ht1, q, hq, hk, hl⟩ := hf
  obtain ⟨q', hq', hlen, cell, q1, q2, q3, q4⟩ := (hH.2.2 a (by omega)).1 (by omega)
  have hown := (hH.2.2 a (by omega)).2.2
  rw [ha] at hq' q2 q4 hown
  cases hq.symm.trans hq'
  have hba : γ.base ≤ a := by
    rcases hb with hb | hb
    · exact hown hb (by omega)
    · exact hb
  obtain ⟨hS, hfc, kC, hkC, hkind⟩ := C.K.1 (t - 1) _ hq
  obtain ⟨cf, kf, fi, f, hi, hsl⟩ := hS k hk
  have hlay := u_lays (args := args) (C.lays hq) (fun _ h => h) hk
  have hlay0 := C.lays (args := args) hq _ (u_in_lay hk)
  have hst := (u_facts hfc hkC hlay hi).1
  have hty : parseFieldDescriptor (q.2.1 k).2.2.1 = some (jTy t k) := by
    have h1 := jTyOk hq k hk
    rwa [show t - 1 + 1 = t by omega] at h1
  have h6 := u_fits hfc hkC hkind hlay hi hty hn hfit
  have hsz : f.slot < cell.slots.size := by rw [hsl]; exact k2_hasslot (q4 k hk)
  have hkn : cell.vm ≠ .unknown := by rw [q3]; exact fun h => by cases h
  have go : ∀ H' : Heap, H'[a]? = some (cell.setSlot f.slot v) → H'.size = H.size → (∀ q, q ≠ a → H'[q]? = H[q]?) → W p γ.l e R s m args below meth c H' (locs ++ [⟨a, f.slot⟩]) cells slots QQ (F0 m (pc + 3) ls st) := by
    intro H' e1 e2 e3
    refine kk H' _ ?_ e2 ?_
    · refine hH.obj (a := a) (k := k) (v := v) (cell := cell) (q := q) ht hl' hba hv ?_ (by omega) ?_ hlen hk ?_ ?_ q3 ?_ ?_ e3 e2
      · rw [ha]; exact hu
      · rw [ha]; exact hq
      · rw [ha]; exact C.apart ht0 hq
      · rw [ha]; exact q2
      · rw [ha]; exact q4
      · rw [ha, ← hsl]; exact e1
    · intro z hz
      rcases List.mem_append.mp hz with hz | hz
      · exact hlo z hz
      · rw [List.mem_singleton.mp hz]; exact hba
  have e0 : jFin t k = (q.2.1 k).2.2.2 := by unfold jFin; rw [hq]
  have d0 : jDecl t k = (q.2.1 k).1 := by unfold jDecl; rw [hq]
  rw [e0, d0] at hfin
  rcases hl with ⟨ref, hw, hs⟩ | ⟨host, hw⟩
  · have hlink : (Cond.fieldLink μ.y.cls idx ref (q.2.1 k).2.1 (q.2.1 k).2.2.1).before args s = true := C.w hw rfl
    have hi' : s.fieldFound? ref (q.2.1 k).2.1 (q.2.1 k).2.2.1 = some (cf, kf, fi, f) := by
      rcases hs with rfl | ⟨hs, hg⟩
      · exact hi
      · exact u_same (args := args) (C.w hs hg) _ hi
    rcases hfin with hf0 | ⟨hf1, hin, hdc⟩
    · unfold u_lay at hlay0
      rw [if_neg (by rw [hf0]; decide)] at hlay0
      have h7 := u_store hfc hkC hkind hlay0 hi hty hn hfit
      exact W.putK C.hx C.hb (f := f) ⟨C.hown, hlink, ⟨_, _, _, hi'⟩, hst⟩ (by rw [q2]; exact h7) q1 q3 hsz rfl rfl hd go
    · unfold u_lay at hlay0
      rw [if_pos hf1] at hlay0
      have hcf : m.cls = cf := by
        obtain ⟨_, _, c', _, _, _, -, -, hf', -, -, -, hown2, -⟩ := Cond.laysFinal_spec hlay0
        have e1 : c' = cf := by have := hi.symm.trans hf'; simp at this; exact this.1.symm
        rw [hdc] at hown2
        rw [← e1]; exact Option.some.inj (C.hown.symm.trans hown2)
      exact W.putFinK C.hx C.hb C.hown hlink hi' hst hcf (C.nm.trans hin) (by rw [q2]; exact h6) q1 q3 hsz rfl rfl hd go
  · rcases hfin with hf0 | ⟨hf1, hin, hdc⟩
    · unfold u_lay at hlay0
      rw [if_neg (by rw [hf0]; decide)] at hlay0
      have h7 := u_store hfc hkC hkind hlay0 hi hty hn hfit
      exact va_WputK C.hx C.hb (f := f) C.hown (C.wN (args := args) hw) hi hst (by rw [q2]; exact h7) q1 q3 hsz rfl rfl hd go
    · unfold u_lay at hlay0
      rw [if_pos hf1] at hlay0
      have hcf : m.cls = cf := by
        obtain ⟨_, _, c', _, _, _, -, -, hf', -, -, -, hown2, -⟩ := Cond.laysFinal_spec hlay0
        have e1 : c' = cf := by have := hi.symm.trans hf'; simp at this; exact this.1.symm
        rw [hdc] at hown2
        rw [← e1]; exact Option.some.inj (C.hown.symm.trans hown2)
      have ha' : a < H.size := (Array.getElem?_eq_some_iff.mp q1).1
      refine va_Wputf C.hx C.hb C.hown (C.wN (args := args) hw) hi hst (Or.inr ⟨hcf, C.nm.trans hin⟩) q1 hkn hsz h6.1 (by rw [q2, q3]; exact h6.2) rfl rfl hd (go _ ?_ ?_ ?_)
      · simp [Array.getElem?_setIfInBounds, ha']
      · simp
      · intro q hq
        simp [Array.getElem?_setIfInBounds, Ne.symm hq]
theorem jArrA (hH : jRH γ h H) {a : Nat} (h20 : 20 ≤ h.tag a) : H[a]? = some (arrV (γ.E (jE (h.tag a))) (h.len a) (jV h (h.tag a) a)) := (hH.2.2 a (by omega)).2.1 h20
theorem jTyA {t : Nat} (h : 20 ≤ t) (k : Nat) : jTy t k = jE t := by
  unfold jTy
  split <;> first | omega | rfl
theorem jWrote {a : Nat} {L : List Loc} {i : Nat} (hlo : ∀ q ∈ L, γ.base ≤ q.base) (hb : γ.base ≤ a) : ∀ q ∈ L ++ [⟨a, i⟩], γ.base ≤ q.base := fun z hz => by
  rcases List.mem_append.mp hz with hz | hz
  · exact hlo z hz
  · rw [List.mem_singleton.mp hz]; exact hb
end HP
section JH
variable {γ : jG} {μ : jMth} {f mc ms cells slots : Nat} {h : jM} {pc : Nat} {lv : List (Nat × Value)} {st : List Value} {Q : Option Value → jM → Prop} {X : String → jM → Prop}

theorem J.getI {idx t k a : Nat} {pc' : Nat} (hc : μ.cm pc = some (.getfield idx, 3)) (hf : jFl μ.y.cls idx t k) (hk : jKi (jTy t k) = true) (ha : h.tag a = t) (hp : pc + 3 = pc') (kk : J γ μ f mc ms cells slots h pc' lv (.int (jI (h.I t a k)) :: st) Q X) : J γ μ f mc ms cells slots h pc lv (.ref a :: st) Q X := by
  subst hp
  intro p e s m args below meth c C H locs ls hH hz hlo hl
  refine jGetF C hH hf ha (C.dec hc) ?_
  unfold jV
  rw [jVal_i hk]
  exact kk p e s m args below meth c C H locs ls hH hz hlo hl
theorem J.getL {idx t k a : Nat} {pc' : Nat} (hc : μ.cm pc = some (.getfield idx, 3)) (hf : jFl μ.y.cls idx t k) (hk : jTy t k = .long) (ha : h.tag a = t) (hp : pc + 3 = pc') (kk : J γ μ f mc ms cells slots h pc' lv (.long (jL (h.L t a k)) :: st) Q X) : J γ μ f mc ms cells slots h pc lv (.ref a :: st) Q X := by
  subst hp
  intro p e s m args below meth c C H locs ls hH hz hlo hl
  refine jGetF C hH hf ha (C.dec hc) ?_
  unfold jV
  rw [jVal_l hk]
  exact kk p e s m args below meth c C H locs ls hH hz hlo hl
theorem J.getR {idx t k a b : Nat} {pc' : Nat} (hc : μ.cm pc = some (.getfield idx, 3)) (hf : jFl μ.y.cls idx t k) (hk : jKr (jTy t k) = true) (ha : h.tag a = t) (hb : h.R t a k = some b) (hp : pc + 3 = pc') (kk : J γ μ f mc ms cells slots h pc' lv (.ref b :: st) Q X) : J γ μ f mc ms cells slots h pc lv (.ref a :: st) Q X := by
  subst hp
  intro p e s m args below meth c C H locs ls hH hz hlo hl
  refine jGetF C hH hf ha (C.dec hc) ?_
  unfold jV
  rw [jVal_r hk, hb]
  exact kk p e s m args below meth c C H locs ls hH hz hlo hl
theorem J.getRN {idx t k a : Nat} {pc' : Nat} (hc : μ.cm pc = some (.getfield idx, 3)) (hf : jFl μ.y.cls idx t k) (hk : jKr (jTy t k) = true) (ha : h.tag a = t) (hb : h.R t a k = none) (hp : pc + 3 = pc') (kk : J γ μ f mc ms cells slots h pc' lv (.null :: st) Q X) : J γ μ f mc ms cells slots h pc lv (.ref a :: st) Q X := by
  subst hp
  intro p e s m args below meth c C H locs ls hH hz hlo hl
  refine jGetF C hH hf ha (C.dec hc) ?_
  unfold jV
  rw [jVal_r hk, hb]
  exact kk p e s m args below meth c C H locs ls hH hz hlo hl
theorem J.putI {idx t k a : Nat} {z : Int} {pc' : Nat} (hc : μ.cm pc = some (.putfield idx, 3)) (hf : jFl μ.y.cls idx t k) (hk : jTy t k = .int) (hfin : jFin t k = false ∨ (jFin t k = true ∧ μ.y.name = "<init>" ∧ jDecl t k = μ.y.cls)) (ha : h.tag a = t) (hb : jWr t = true ∨ γ.base ≤ a) (hp : pc + 3 = pc') (kk : J γ μ f mc ms cells slots (h.sI t a k z) pc' lv st Q X) : J γ μ f mc ms cells slots h pc lv (.int (jI z) :: .ref a :: st) Q X := by
  subst hp
  intro p e s m args below meth c C H locs ls hH hz hlo hl
  exact jPutF (h' := (h.sI t a k z)) C hH hf hfin ha hb (by rw [hk]; rfl) (by rw [hk]; rfl) (C.dec hc) rfl rfl (fun b hb t' => jV_oI hb t') (jV_sI (by rw [hk]; rfl)) hlo (fun H' locs' hH' hs' hlo' => kk p e s m args below meth c C H' locs' ls hH' (by rw [hs']; exact hz) hlo' hl)
theorem J.putZ {idx t k a : Nat} {z : Int} {pc' : Nat} (hc : μ.cm pc = some (.putfield idx, 3)) (hf : jFl μ.y.cls idx t k) (hk : jKi (jTy t k) = true) (hn : narrow (jTy t k) (.int (jI z)) = .int (jI z)) (hfit : fits (jTy t k) (.int (jI z)) = true) (hfin : jFin t k = false ∨ (jFin t k = true ∧ μ.y.name = "<init>" ∧ jDecl t k = μ.y.cls)) (ha : h.tag a = t) (hb : jWr t = true ∨ γ.base ≤ a) (hp : pc + 3 = pc') (kk : J γ μ f mc ms cells slots (h.sI t a k z) pc' lv st Q X) : J γ μ f mc ms cells slots h pc lv (.int (jI z) :: .ref a :: st) Q X := by
  subst hp
  intro p e s m args below meth c C H locs ls hH hz hlo hl
  exact jPutF (h' := (h.sI t a k z)) C hH hf hfin ha hb hn hfit (C.dec hc) rfl rfl (fun b hb t' => jV_oI hb t') (jV_sI hk) hlo (fun H' locs' hH' hs' hlo' => kk p e s m args below meth c C H' locs' ls hH' (by rw [hs']; exact hz) hlo' hl)
theorem J.putL {idx t k a : Nat} {z : Int} {pc' : Nat} (hc : μ.cm pc = some (.putfield idx, 3)) (hf : jFl μ.y.cls idx t k) (hk : jTy t k = .long) (hfin : jFin t k = false ∨ (jFin t k = true ∧ μ.y.name = "<init>" ∧ jDecl t k = μ.y.cls)) (ha : h.tag a = t) (hb : jWr t = true ∨ γ.base ≤ a) (hp : pc + 3 = pc') (kk : J γ μ f mc ms cells slots (h.sL t a k z) pc' lv st Q X) : J γ μ f mc ms cells slots h pc lv (.long (jL z) :: .ref a :: st) Q X := by
  subst hp
  intro p e s m args below meth c C H locs ls hH hz hlo hl
  exact jPutF (h' := (h.sL t a k z)) C hH hf hfin ha hb (by rw [hk]; rfl) (by rw [hk]; rfl) (C.dec hc) rfl rfl (fun b hb t' => jV_oL hb t') (jV_sL hk) hlo (fun H' locs' hH' hs' hlo' => kk p e s m args below meth c C H' locs' ls hH' (by rw [hs']; exact hz) hlo' hl)
theorem jNar_r {ty : FieldType} (h : jKr ty = true) {b : Nat} : narrow ty (.ref b) = .ref b := by cases ty <;> rfl
theorem jFit_r {ty : FieldType} (h : jKr ty = true) {b : Nat} : fits ty (.ref b) = true := by cases ty <;> first | rfl | (simp [jKr] at h)
theorem jNar_n {ty : FieldType} (h : jKr ty = true) : narrow ty .null = .null := by cases ty <;> rfl
theorem jFit_n {ty : FieldType} (h : jKr ty = true) : fits ty .null = true := by cases ty <;> first | rfl | (simp [jKr] at h)
theorem J.putR {idx t k a : Nat} {b : Nat} {pc' : Nat} (hc : μ.cm pc = some (.putfield idx, 3)) (hf : jFl μ.y.cls idx t k) (hk : jKr (jTy t k) = true) (hfin : jFin t k = false ∨ (jFin t k = true ∧ μ.y.name = "<init>" ∧ jDecl t k = μ.y.cls)) (ha : h.tag a = t) (hb : jWr t = true ∨ γ.base ≤ a) (hp : pc + 3 = pc') (kk : J γ μ f mc ms cells slots (h.sR t a k (some b)) pc' lv st Q X) : J γ μ f mc ms cells slots h pc lv (.ref b :: .ref a :: st) Q X := by
  subst hp
  intro p e s m args below meth c C H locs ls hH hz hlo hl
  exact jPutF (h' := (h.sR t a k (some b))) C hH hf hfin ha hb (jNar_r hk) (jFit_r hk) (C.dec hc) rfl rfl (fun b hb t' => jV_oR hb t') (jV_sR hk) hlo (fun H' locs' hH' hs' hlo' => kk p e s m args below meth c C H' locs' ls hH' (by rw [hs']; exact hz) hlo' hl)
theorem J.putRN {idx t k a : Nat}  {pc' : Nat} (hc : μ.cm pc = some (.putfield idx, 3)) (hf : jFl μ.y.cls idx t k) (hk : jKr (jTy t k) = true) (hfin : jFin t k = false ∨ (jFin t k = true ∧ μ.y.name = "<init>" ∧ jDecl t k = μ.y.cls)) (ha : h.tag a = t) (hb : jWr t = true ∨ γ.base ≤ a) (hp : pc + 3 = pc') (kk : J γ μ f mc ms cells slots (h.sR t a k none) pc' lv st Q X) : J γ μ f mc ms cells slots h pc lv (.null :: .ref a :: st) Q X := by
  subst hp
  intro p e s m args below meth c C H locs ls hH hz hlo hl
  exact jPutF (h' := (h.sR t a k none)) C hH hf hfin ha hb (jNar_n hk) (jFit_n hk) (C.dec hc) rfl rfl (fun b hb t' => jV_oR hb t') (jV_sR hk) hlo (fun H' locs' hH' hs' hlo' => kk p e s m args below meth c C H' locs' ls hH' (by rw [hs']; exact hz) hlo' hl)
theorem J.alen {a : Nat} {pc' : Nat} (hc : μ.cm pc = some (.arraylength, 1)) (h20 : 20 ≤ h.tag a) (hty : jE (h.tag a) ∈ jTys) (hp : pc + 1 = pc') (kk : J γ μ f mc ms cells slots h pc' lv (.int (jI (h.len a)) :: st) Q X) : J γ μ f mc ms cells slots h pc lv (.ref a :: st) Q X := by
  subst hp
  intro p e s m args below meth c C H locs ls hH hz hlo hl
  refine W.alen (n := jI (h.len a)) C.hx C.hb (jArrA hH h20) ((C.A hty).of _ _) ?_ rfl rfl (C.dec hc) (kk p e s m args below meth c C H locs ls hH hz hlo hl)
  rw [arrV_size, jI_nI]
  rfl
theorem J.iald {a t : Nat} {i : Int} {pc' : Nat} (hc : μ.cm pc = some (.iaload, 1)) (ha : h.tag a = t) (h20 : 20 ≤ t) (hty : jE t = .int) (hi0 : 0 ≤ i) (hi : i < (h.len a : Int)) (hr : r32 i) (hp : pc + 1 = pc') (kk : J γ μ f mc ms cells slots h pc' lv (.int (jI (h.I t a i.toNat)) :: st) Q X) : J γ μ f mc ms cells slots h pc lv (.int (jI i) :: .ref a :: st) Q X := by
  subst hp
  subst ha
  intro p e s m args below meth c C H locs ls hH hz hlo hl
  refine W.iald (v := .int (jI (h.I (h.tag a) a i.toNat))) C.hx C.hb (jArrA hH h20) (by rw [hty]; exact (C.A (by decide)).of _ _) (fun q => by cases q) ?_ ?_ rfl rfl (C.dec hc) (kk p e s m args below meth c C H locs ls hH hz hlo hl)
  · rw [arrV_size]
    exact jI_inr hr hi0 hi
  · rw [jI_ix hr hi0, arrV_read _ _ (by omega)]
    unfold jV
    rw [jTyA h20, hty, jVal_i rfl]
theorem J.bald {a t : Nat} {i : Int} {pc' : Nat} (hc : μ.cm pc = some (.baload, 1)) (ha : h.tag a = t) (h20 : 20 ≤ t) (hty : jE t = .byte) (hi0 : 0 ≤ i) (hi : i < (h.len a : Int)) (hr : r32 i) (hp : pc + 1 = pc') (kk : J γ μ f mc ms cells slots h pc' lv (.int (jI (h.I t a i.toNat)) :: st) Q X) : J γ μ f mc ms cells slots h pc lv (.int (jI i) :: .ref a :: st) Q X := by
  subst hp
  subst ha
  intro p e s m args below meth c C H locs ls hH hz hlo hl
  refine W.bald (v := .int (jI (h.I (h.tag a) a i.toNat))) C.hx C.hb (jArrA hH h20) (by rw [hty]; exact (C.A (by decide)).of _ _) (fun q => by cases q) ?_ ?_ rfl rfl (C.dec hc) (kk p e s m args below meth c C H locs ls hH hz hlo hl)
  · rw [arrV_size]
    exact jI_inr hr hi0 hi
  · rw [jI_ix hr hi0, arrV_read _ _ (by omega)]
    unfold jV
    rw [jTyA h20, hty, jVal_i rfl]
theorem J.zald {a t : Nat} {i : Int} {pc' : Nat} (hc : μ.cm pc = some (.baload, 1)) (ha : h.tag a = t) (h20 : 20 ≤ t) (hty : jE t = .boolean) (hi0 : 0 ≤ i) (hi : i < (h.len a : Int)) (hr : r32 i) (hp : pc + 1 = pc') (kk : J γ μ f mc ms cells slots h pc' lv (.int (jI (h.I t a i.toNat)) :: st) Q X) : J γ μ f mc ms cells slots h pc lv (.int (jI i) :: .ref a :: st) Q X := by
  subst hp
  subst ha
  intro p e s m args below meth c C H locs ls hH hz hlo hl
  refine W.zald (v := .int (jI (h.I (h.tag a) a i.toNat))) C.hx C.hb (jArrA hH h20) (by rw [hty]; exact (C.A (by decide)).of _ _) (fun q => by cases q) ?_ ?_ rfl rfl (C.dec hc) (kk p e s m args below meth c C H locs ls hH hz hlo hl)
  · rw [arrV_size]
    exact jI_inr hr hi0 hi
  · rw [jI_ix hr hi0, arrV_read _ _ (by omega)]
    unfold jV
    rw [jTyA h20, hty, jVal_i rfl]
theorem J.lald {a t : Nat} {i : Int} {pc' : Nat} (hc : μ.cm pc = some (.laload, 1)) (ha : h.tag a = t) (h20 : 20 ≤ t) (hty : jE t = .long) (hi0 : 0 ≤ i) (hi : i < (h.len a : Int)) (hr : r32 i) (hp : pc + 1 = pc') (kk : J γ μ f mc ms cells slots h pc' lv (.long (jL (h.L t a i.toNat)) :: st) Q X) : J γ μ f mc ms cells slots h pc lv (.int (jI i) :: .ref a :: st) Q X := by
  subst hp
  subst ha
  intro p e s m args below meth c C H locs ls hH hz hlo hl
  refine W.lald (v := .long (jL (h.L (h.tag a) a i.toNat))) C.hx C.hb (jArrA hH h20) (by rw [hty]; exact (C.A (by decide)).of _ _) (fun q => by cases q) ?_ ?_ rfl rfl (C.dec hc) (kk p e s m args below meth c C H locs ls hH hz hlo hl)
  · rw [arrV_size]
    exact jI_inr hr hi0 hi
  · rw [jI_ix hr hi0, arrV_read _ _ (by omega)]
    unfold jV
    rw [jTyA h20, hty, jVal_l rfl]
theorem J.aald {a t b : Nat} {i : Int} {pc' : Nat} (hc : μ.cm pc = some (.aaload, 1)) (ha : h.tag a = t) (h20 : 20 ≤ t) (hty : jE t ∈ jTys) (hk : jKr (jE t) = true) (hi0 : 0 ≤ i) (hi : i < (h.len a : Int)) (hr : r32 i) (hb : h.R t a i.toNat = some b) (hp : pc + 1 = pc') (kk : J γ μ f mc ms cells slots h pc' lv (.ref b :: st) Q X) : J γ μ f mc ms cells slots h pc lv (.int (jI i) :: .ref a :: st) Q X := by
  subst hp
  subst ha
  intro p e s m args below meth c C H locs ls hH hz hlo hl
  refine W.aald (v := .ref b) (ty := jE (h.tag a)) C.hx C.hb (jArrA hH h20) ((C.A hty).of _ _) (by revert hk; cases jE (h.tag a) <;> simp [jKr, FieldType.isReference]) (fun q => by cases q) ?_ ?_ rfl rfl (C.dec hc) (kk p e s m args below meth c C H locs ls hH hz hlo hl)
  · rw [arrV_size]
    exact jI_inr hr hi0 hi
  · rw [jI_ix hr hi0, arrV_read _ _ (by omega)]
    unfold jV
    rw [jTyA h20, jVal_r hk, hb]
    rfl
theorem J.aaldN {a t : Nat} {i : Int} {pc' : Nat} (hc : μ.cm pc = some (.aaload, 1)) (ha : h.tag a = t) (h20 : 20 ≤ t) (hty : jE t ∈ jTys) (hk : jKr (jE t) = true) (hi0 : 0 ≤ i) (hi : i < (h.len a : Int)) (hr : r32 i) (hb : h.R t a i.toNat = none) (hp : pc + 1 = pc') (kk : J γ μ f mc ms cells slots h pc' lv (.null :: st) Q X) : J γ μ f mc ms cells slots h pc lv (.int (jI i) :: .ref a :: st) Q X := by
  subst hp
  subst ha
  intro p e s m args below meth c C H locs ls hH hz hlo hl
  refine W.aald (v := .null) (ty := jE (h.tag a)) C.hx C.hb (jArrA hH h20) ((C.A hty).of _ _) (by revert hk; cases jE (h.tag a) <;> simp [jKr, FieldType.isReference]) (fun q => by cases q) ?_ ?_ rfl rfl (C.dec hc) (kk p e s m args below meth c C H locs ls hH hz hlo hl)
  · rw [arrV_size]
    exact jI_inr hr hi0 hi
  · rw [jI_ix hr hi0, arrV_read _ _ (by omega)]
    unfold jV
    rw [jTyA h20, jVal_r hk, hb]
    rfl
theorem J.iast {a t : Nat} {i z : Int} {pc' : Nat} (hc : μ.cm pc = some (.iastore, 1)) (ha : h.tag a = t) (h20 : 20 ≤ t) (hty : jE t = .int)  (hi0 : 0 ≤ i) (hi : i < (h.len a : Int)) (hr : r32 i) (hb : jWr t = true ∨ γ.base ≤ a) (hp : pc + 1 = pc') (kk : J γ μ f mc ms cells slots (h.sI t a i.toNat z) pc' lv st Q X) : J γ μ f mc ms cells slots h pc lv (.int (jI z) :: .int (jI i) :: .ref a :: st) Q X := by
  subst hp
  subst ha
  intro p e s m args below meth c C H locs ls hH hz hlo hl
  have hba : γ.base ≤ a := by
    rcases hb with hb | hb
    · exact (hH.2.2 a (by omega)).2.2 hb (by omega)
    · exact hb
  refine W.iast C.hx C.hb (jArrA hH h20) (by rw [hty]; exact (C.A (by decide)).of _ _) (fun q => by cases q) ?_ rfl rfl (C.dec hc) (fun H' e1 e2 e3 => ?_)
  · rw [arrV_size]
    exact jI_inr hr hi0 hi
  · rw [jI_ix hr hi0] at e1
    refine kk p e s m args below meth c C H' _ ls (hH.arr (a := a) (k := i.toNat) (v := .int (jI z)) rfl rfl hba (fun b hb t' => jV_oI hb t') (jV_sI (by rw [jTyA h20, hty]; rfl)) h20 e1 e3 e2) (by rw [e2]; exact hz) (jWrote hlo hba) hl
theorem J.last {a t : Nat} {i z : Int} {pc' : Nat} (hc : μ.cm pc = some (.lastore, 1)) (ha : h.tag a = t) (h20 : 20 ≤ t) (hty : jE t = .long)  (hi0 : 0 ≤ i) (hi : i < (h.len a : Int)) (hr : r32 i) (hb : jWr t = true ∨ γ.base ≤ a) (hp : pc + 1 = pc') (kk : J γ μ f mc ms cells slots (h.sL t a i.toNat z) pc' lv st Q X) : J γ μ f mc ms cells slots h pc lv (.long (jL z) :: .int (jI i) :: .ref a :: st) Q X := by
  subst hp
  subst ha
  intro p e s m args below meth c C H locs ls hH hz hlo hl
  have hba : γ.base ≤ a := by
    rcases hb with hb | hb
    · exact (hH.2.2 a (by omega)).2.2 hb (by omega)
    · exact hb
  refine W.last C.hx C.hb (jArrA hH h20) (by rw [hty]; exact (C.A (by decide)).of _ _) (fun q => by cases q) ?_ rfl rfl (C.dec hc) (fun H' e1 e2 e3 => ?_)
  · rw [arrV_size]
    exact jI_inr hr hi0 hi
  · rw [jI_ix hr hi0] at e1
    refine kk p e s m args below meth c C H' _ ls (hH.arr (a := a) (k := i.toNat) (v := .long (jL z)) rfl rfl hba (fun b hb t' => jV_oL hb t') (jV_sL (by rw [jTyA h20, hty])) h20 e1 e3 e2) (by rw [e2]; exact hz) (jWrote hlo hba) hl
theorem J.bast {a t : Nat} {i z : Int} {pc' : Nat} (hc : μ.cm pc = some (.bastore, 1)) (ha : h.tag a = t) (h20 : 20 ≤ t) (hty : jE t = .byte) (hn : narrow .byte (.int (jI z)) = .int (jI z)) (hi0 : 0 ≤ i) (hi : i < (h.len a : Int)) (hr : r32 i) (hb : jWr t = true ∨ γ.base ≤ a) (hp : pc + 1 = pc') (kk : J γ μ f mc ms cells slots (h.sI t a i.toNat z) pc' lv st Q X) : J γ μ f mc ms cells slots h pc lv (.int (jI z) :: .int (jI i) :: .ref a :: st) Q X := by
  subst hp
  subst ha
  intro p e s m args below meth c C H locs ls hH hz hlo hl
  have hba : γ.base ≤ a := by
    rcases hb with hb | hb
    · exact (hH.2.2 a (by omega)).2.2 hb (by omega)
    · exact hb
  refine W.bast C.hx C.hb (jArrA hH h20) (by rw [hty]; exact (C.A (by decide)).of _ _) (fun q => by cases q) ?_ rfl rfl (C.dec hc) (fun H' e1 e2 e3 => ?_)
  · rw [arrV_size]
    exact jI_inr hr hi0 hi
  · rw [jI_ix hr hi0, hn] at e1
    refine kk p e s m args below meth c C H' _ ls (hH.arr (a := a) (k := i.toNat) (v := .int (jI z)) rfl rfl hba (fun b hb t' => jV_oI hb t') (jV_sI (by rw [jTyA h20, hty]; rfl)) h20 e1 e3 e2) (by rw [e2]; exact hz) (jWrote hlo hba) hl
theorem J.zast {a t : Nat} {i z : Int} {pc' : Nat} (hc : μ.cm pc = some (.bastore, 1)) (ha : h.tag a = t) (h20 : 20 ≤ t) (hty : jE t = .boolean) (hn : narrow .boolean (.int (jI z)) = .int (jI z)) (hi0 : 0 ≤ i) (hi : i < (h.len a : Int)) (hr : r32 i) (hb : jWr t = true ∨ γ.base ≤ a) (hp : pc + 1 = pc') (kk : J γ μ f mc ms cells slots (h.sI t a i.toNat z) pc' lv st Q X) : J γ μ f mc ms cells slots h pc lv (.int (jI z) :: .int (jI i) :: .ref a :: st) Q X := by
  subst hp
  subst ha
  intro p e s m args below meth c C H locs ls hH hz hlo hl
  have hba : γ.base ≤ a := by
    rcases hb with hb | hb
    · exact (hH.2.2 a (by omega)).2.2 hb (by omega)
    · exact hb
  refine W.zast C.hx C.hb (jArrA hH h20) (by rw [hty]; exact (C.A (by decide)).of _ _) (fun q => by cases q) ?_ rfl rfl (C.dec hc) (fun H' e1 e2 e3 => ?_)
  · rw [arrV_size]
    exact jI_inr hr hi0 hi
  · rw [jI_ix hr hi0, hn] at e1
    refine kk p e s m args below meth c C H' _ ls (hH.arr (a := a) (k := i.toNat) (v := .int (jI z)) rfl rfl hba (fun b hb t' => jV_oI hb t') (jV_sI (by rw [jTyA h20, hty]; rfl)) h20 e1 e3 e2) (by rw [e2]; exact hz) (jWrote hlo hba) hl
theorem J.widenQ {Q' : Option Value → jM → Prop} {X' : String → jM → Prop} (hQ : ∀ r h', Q r h' → Q' r h') (hX : ∀ E h', X E h' → X' E h') (kk : J γ μ f mc ms cells slots h pc lv st Q X) : J γ μ f mc ms cells slots h pc lv st Q' X' := by
  intro p e s m args below meth c C H locs ls hH hz hlo hl T hT XT
  obtain ⟨t, a1, o, b1, b2, b3⟩ := kk p e s m args below meth c C H locs ls hH hz hlo hl T hT XT
  refine ⟨t, a1, o, b1, b2, ?_⟩
  rcases b3 with ⟨⟨r, h', e1, e2, e3⟩, L⟩ | ⟨q, e1, E, ce, L, ⟨h', x1, x2⟩, rest⟩
  · exact Or.inl ⟨⟨r, h', e1, hQ r h' e2, e3⟩, L⟩
  · exact Or.inr ⟨q, e1, E, ce, L, ⟨h', hX E h' x1, x2⟩, rest⟩
end JH
end
section
/-- what the tables say of a method -/
def jMeth (μ : jMth) : Prop := μ.hh = [] ∧ Cond.code μ.y μ.cc μ.mL μ.ret ∈ lw_tbl ∧ Cond.initialized μ.y.cls ∈ lw_tbl ∧ (μ.y.cls ≠ "java/lang/invoke/MethodHandle" ∧ μ.y.cls ≠ "java/lang/invoke/VarHandle") ∧ plainName μ.y.cls = true ∧ μ.mL ≤ 45 ∧ (parseMethodDescriptor μ.y.desc).map (fun d => d.parameters.length) = some μ.np ∧ ∀ pc x, μ.cm pc = some x → decode μ.cc pc = .ok x
theorem jWord_nil {μ : jMth} (h : μ.hh = []) : jWord μ = .code μ.y μ.cc μ.mL μ.ret := by
  unfold jWord
  rw [h]
theorem CT.of {γ : jG} {μ : jMth} {f mc ms : Nat} {a : List Value} {h : jM} {Q : Option Value → jM → Prop} {X : String → jM → Prop} (M : jMeth μ) (hlen : (lg_sl a).length ≤ μ.mL) (k : J γ μ f mc ms 0 0 h 0 (lv_args 0 a) [] Q X) : CT γ μ f mc ms a h Q X := by
  refine vx_ofW (cc := μ.cc) (maxL := μ.mL) (ret := μ.ret) M.2.2.2.2.1 (ws' := []) (by rw [jWord_nil M.1]) ?_
  intro p e s m args below meth c s₁ B hml htab hv
  obtain ⟨rfl, hwarm, hRH, hF⟩ := hv
  have ht : c.exceptionTable.toList = tableOf μ.hh := by
    rw [M.1]
    cases hc : c.exceptionTable.toList with
    | nil => rfl
    | cons x l => exact (htab x (by rw [hc]; exact List.mem_cons_self)).elim
  have C : jC γ μ p s m meth c := ⟨B.exec, B.bytes, hml, B.returns, B.notSynchronized, findClass_of_methodNamed B.named, (name_of_methodNamed B.named B.method).1, ht, hwarm, hRH.2.1, hRH.1, hF, M.2.2.2.2.2.2.2⟩
  rw [lg_entry_eq]
  exact k p e s m _ below meth c C s.heap [] _ hRH (Nat.le_refl _) (fun q hq => nomatch hq) (lv_entry a hlen)
theorem CT.met {γ : jG} {μ : jMth} {f mc ms : Nat} {a : List Value} {h : jM} {Q : Option Value → jM → Prop} (H : CT γ μ f mc ms a h Q (fun _ _ => False)) : Met γ.l μ.y [jWord μ] (jRm f mc ms) (jPc γ a h) (jQc γ Q) mc ms (jFree γ) := by
  intro p e h1 h2 h3 s m args below h4 h5 h6 h7
  obtain ⟨n, o, q1, q2, q3, q4⟩ := H p e h1 h2 h3 s m args below h4 h5 h6 h7
  refine ⟨n, o, q1, q2, q3, ?_⟩
  rcases q4 with q4 | ⟨q, -, E, ce, L, ⟨h', hx, -⟩, -⟩
  · exact q4
  · exact hx.elim
theorem CT.mono {γ : jG} {μ : jMth} {f mc ms : Nat} {a : List Value} {h : jM} {Q Q' : Option Value → jM → Prop} {X X' : String → jM → Prop} (H : CT γ μ f mc ms a h Q X) (hQ : ∀ r h', Q r h' → Q' r h') (hX : ∀ E h', X E h' → X' E h') : CT γ μ f mc ms a h Q' X' := by
  intro p e h1 h2 h3 s m args below h4 h5 h6 h7
  obtain ⟨n, o, q1, q2, q3, q4⟩ := H p e h1 h2 h3 s m args below h4 h5 h6 h7
  refine ⟨n, o, q1, q2, q3, ?_⟩
  rcases q4 with ⟨⟨r, h', e1, e2, e3⟩, L⟩ | ⟨q, e1, E, ce, L, ⟨h', x1, x2⟩, rest⟩
  · exact Or.inl ⟨⟨r, h', e1, hQ r h' e2, e3⟩, L⟩
  · exact Or.inr ⟨q, e1, E, ce, L, ⟨h', hX E h' x1, x2⟩, rest⟩
theorem jBlind {γ : jG} {a : List Value} {h : jM} : FrameBlind (jPc γ a h) := fun _ _ _ _ q => q
section CW
variable {γ : jG} {μ μ' : jMth} {p : Program} {e : Env} {s : State} {m : MethodId} {args : Array Value} {below : List Frame} {meth : Method} {c : Code} {H : Heap} {locs : List Loc} {cells slots : Nat} {h : jM} {f mc ms f' mc' ms' idx : Nat} {QQ : State → Prop}
theorem jHw (C : jC γ μ p s m meth c) (M : jMeth μ') : ∀ w ∈ [jWord μ'], ∀ (a' : Array Value) (U : State), s.WarmedH U.vm → w.before a' U = true := by
  intro w hw a' U hU
  rw [List.mem_singleton.mp hw, jWord_nil M.1]
  obtain ⟨A, hA, -⟩ := C.F.2.1
  exact word_at (State.WarmedH.trans C.warm hU) (good_of_word rfl) (hA _ M.2.1)
theorem jCB (C : jC γ μ p s m meth c) (M : jMeth μ') (hl : Cond.methodLink μ.y.cls idx μ'.y ∈ lw_tbl) (hf : f' + 1 ≤ f) : CallB (jRm f mc ms) s args μ.y.cls idx μ'.y μ'.cc μ'.mL μ'.ret [jWord μ'] (jRm f' mc' ms') mc' ms' μ'.np := by
  have hm := M.2.2.2.2.2.1
  refine ⟨rfl, rfl, hf, ?_, jHw C M, ?_, C.w M.2.1 rfl, C.w M.2.2.1 rfl, M.2.2.2.1, fun sig hs => ?_, C.w hl rfl⟩
  · show 8 + (μ'.mL + 11) + f' * 64 ≤ f * 64
    omega
  · rw [jWord_nil M.1]
    exact List.mem_singleton.mpr rfl
  · have h2 := M.2.2.2.2.2.2.1
    rw [hs] at h2
    exact (Option.some.inj h2).symm
theorem jCN (C : jC γ μ p s m meth c) (M : jMeth μ') {host : String} (hl : Cond.methodLinkNest μ.y.cls idx μ'.y host ∈ lw_tbl) (hf : f' + 1 ≤ f) : va_CN (jRm f mc ms) s args μ.y.cls idx μ'.y host μ'.cc μ'.mL μ'.ret [jWord μ'] (jRm f' mc' ms') mc' ms' μ'.np := by
  have hm := M.2.2.2.2.2.1
  refine ⟨⟨rfl, rfl, hf, ?_, jHw C M, ?_⟩, C.w M.2.1 rfl, C.w M.2.2.1 rfl, M.2.2.2.1, fun sig hs => ?_, C.wM hl⟩
  · show 8 + (μ'.mL + 11) + f' * 64 ≤ f * 64
    omega
  · rw [jWord_nil M.1]
    exact List.mem_singleton.mpr rfl
  · have h2 := M.2.2.2.2.2.2.1
    rw [hs] at h2
    exact (Option.some.inj h2).symm
theorem jPre (C : jC γ μ p s m meth c) (hH : jRH γ h H) {a : List Value} : ∀ U : State, U.heap = H → s.WarmedH U.vm → jPc γ a h a.toArray U := fun U hU hW => ⟨rfl, State.WarmedH.trans C.warm hW, by rw [hU]; exact hH, C.F⟩
theorem jRecv (C : jC γ μ p s m meth c) (hH : jRH γ h H) {b t : Nat} {cn : String} (ht0 : 0 < t) (ht1 : t < 20) (hq : ∃ q : vw_C, vwCl[t - 1]? = some q ∧ q.1 = cn) (hb : h.tag b = t) : ∃ cellB : Cell, H[b]? = some cellB ∧ cellB.vm.isStatics = false ∧ s.vm.findClass cn = some cellB.cls := by
  obtain ⟨q, hq, rfl⟩ := hq
  obtain ⟨q', hq', -, cell, q1, q2, q3, -⟩ := (hH.2.2 b (by omega)).1 (by omega)
  rw [hb] at hq' q2
  cases hq.symm.trans hq'
  exact ⟨cell, q1, by rw [q3]; rfl, by rw [q2]; exact (C.K.1 (t - 1) q hq).2.1⟩
theorem jFix (C : jC γ μ p s m meth c) : CallFix p m c μ.cc μ.mL s args [] μ.y.cls := ⟨C.hx, C.hb, C.hml, C.hown, fun _ h => nomatch h⟩
/-- behind a call that may throw -/
theorem jAfterX {Q' : Option Value → jM → Prop} {X' : String → jM → Prop} {a : Array Value} {pc : Nat} {ls : Array Slot} {st0 rest : List Value} (hz : s.heap.size ≤ H.size) (hlo : ∀ q ∈ locs, γ.base ≤ q.base)
    (hr : vx_Run p γ.l e (jRm f mc ms) s m args below meth c H locs cells slots mc' ms' (F0 m pc ls st0) rest (jQc γ Q' a) (jXc γ X') (jFree γ))
    (kx : ∀ (E : String) (h' : jM) (H' : Heap) (locs' : List Loc) (q : Addr) (ce : Cell), X' E h' → jRH γ h' H' → s.heap.size ≤ H'.size → (∀ q ∈ locs', γ.base ≤ q.base) → H'[q]? = some ce → ce.vm = .none → s.vm.findClass E = some ce.cls → vx_W p γ.l e (jRm f mc ms) s m args below meth c H' locs' (cells + mc') (slots + ms') QQ (F0 m pc ls rest) q)
    (kk : ∀ (r : Option Value) (h' : jM) (H' : Heap) (locs' : List Loc), Q' r h' → jRH γ h' H' → s.heap.size ≤ H'.size → (∀ q ∈ locs', γ.base ≤ q.base) → W p γ.l e (jRm f mc ms) s m args below meth c H' locs' (cells + mc') (slots + ms') QQ (F0 m (pc + 3) ls (r.toList ++ rest))) :
    W p γ.l e (jRm f mc ms) s m args below meth c H locs cells slots QQ (F0 m pc ls st0) := by
  have hs : ∀ {T : State} {L : List Loc} {k n : Nat}, Stand p γ.l e (jRm f mc ms) s m args below meth c T L k n → s.heap.size ≤ T.heap.size := fun X => (vx_frame (U := _) X.same).1
  have hL' : ∀ {L : List Loc}, (∀ q ∈ L, jFree γ q.base) → ∀ q ∈ locs ++ L, γ.base ≤ q.base := fun hL q hq => by
    rcases List.mem_append.mp hq with hq | hq
    · exact hlo q hq
    · exact hL q hq
  intro T hT X
  rcases hr T hT X with ⟨v, st₀, t, T', L, h0, X', hL, e1, e2, ⟨r, h', hv, hq, hR⟩, st⟩ | ⟨q, st₀, t, T', L, E, ce, h0, X', hL, e1, e2, ⟨h', hx, hR⟩, hce, hcv, hcl, st⟩
  · cases hv
    obtain ⟨t2, a1, b1⟩ := kk v h' T'.heap (locs ++ L) hq (by rw [e1]; exact hR) (hs X') (hL' hL) T' rfl X'
    exact ⟨t2, st t2 a1, b1⟩
  · obtain ⟨t2, a1, b1⟩ := kx E h' T'.heap (locs ++ L) q ce hx (by rw [e1]; exact hR) (hs X') (hL' hL) (by rw [e1]; exact hce) hcv hcl T' rfl X'
    exact ⟨t2, st.trans a1, b1⟩
/-- behind a call that returns -/
theorem jAfter {Q' : Option Value → jM → Prop} {a : Array Value} {pc : Nat} {ls : Array Slot} {st0 rest : List Value} (hz : s.heap.size ≤ H.size) (hlo : ∀ q ∈ locs, γ.base ≤ q.base)
    (hr : va_Run p γ.l e (jRm f mc ms) s m args below meth c H locs cells slots mc' ms' (F0 m pc ls st0) rest (jQc γ Q' a) (jFree γ))
    (kk : ∀ (r : Option Value) (h' : jM) (H' : Heap) (locs' : List Loc), Q' r h' → jRH γ h' H' → s.heap.size ≤ H'.size → (∀ q ∈ locs', γ.base ≤ q.base) → W p γ.l e (jRm f mc ms) s m args below meth c H' locs' (cells + mc') (slots + ms') QQ (F0 m (pc + 3) ls (r.toList ++ rest))) :
    W p γ.l e (jRm f mc ms) s m args below meth c H locs cells slots QQ (F0 m pc ls st0) := by
  intro T hT X
  obtain ⟨v, st₀, t, T', L, h0, X', hL, e1, e2, ⟨r, h', hv, hq, hR⟩, st⟩ := hr T hT X
  cases hv
  obtain ⟨t2, a1, b1⟩ := kk v h' T'.heap (locs ++ L) hq (by rw [e1]; exact hR) (vx_frame (U := _) X'.same).1 (fun q hq => by
    rcases List.mem_append.mp hq with hq | hq
    · exact hlo q hq
    · exact hL q hq) T' rfl X'
  exact ⟨t2, st t2 a1, b1⟩
end CW
section JK
variable {γ : jG} {μ μ' : jMth} {f mc ms cells slots f' mc' ms' idx : Nat} {h : jM} {pc pc' : Nat} {lv : List (Nat × Value)} {st stk As : List Value} {Q Q' : Option Value → jM → Prop} {X X' : String → jM → Prop}
theorem J.callV {t b : Nat} (hc : μ.cm pc = some (.invokevirtual idx, 3)) (M : jMeth μ') (hl : Cond.methodLink μ.y.cls idx μ'.y ∈ lw_tbl) (hV : Cond.instanceMethod μ'.y ∈ lw_tbl ∧ Cond.selects μ'.y.cls μ'.y μ'.y ∈ lw_tbl) (ht0 : 0 < t ∧ t < 20) (hq : ∃ q : vw_C, vwCl[t - 1]? = some q ∧ q.1 = μ'.y.cls) (hb : h.tag b = t) (hCT : CT γ μ' f' mc' ms' (.ref b :: As) h Q' X') (hst : stk = As.reverse ++ .ref b :: st) (hn : As.length = μ'.np) (hW : (st.map fun v => v.category).sum ≤ 8) (hf : f' + 1 ≤ f) (hm : cells + mc' ≤ mc) (hs : slots + ms' ≤ ms) (hp : pc + 3 = pc') (hh : μ.hh = []) (hX : ∀ E h', X' E h' → X E h')
    (kk : ∀ r h', Q' r h' → J γ μ f mc ms (cells + mc') (slots + ms') h' pc' lv (r.toList ++ st) Q X) : J γ μ f mc ms cells slots h pc lv stk Q X := by
  subst hp
  subst hst
  intro p e s m args below meth c C H locs ls hH hz hlo hl9
  refine jAfterX hz hlo (vx_runV (jFix C) hCT ⟨jCB C M hl hf, C.w hV.1 rfl, C.w hV.2 rfl⟩ ⟨jBlind, jRecv C hH ht0.1 ht0.2 hq hb, jPre C hH⟩ rfl hn hl9.1 rfl (lv_room hW) (C.dec hc) ⟨hm, hs⟩) ?_ ?_
  · intro E h' H' locs' q ce hx hR hz' hlo' hce hcv hcl
    refine vx_out (fun x hx => ?_) C.locks hce hcv hcl (fun t ht _ => ⟨h', hX E h' hx, by rw [ht]; exact hR⟩) hlo' hm hs
    rw [C.tab, hh] at hx
    cases hx
  · intro r h' H' locs' hq' hR hz' hlo'
    exact kk r h' hq' p e s m args below meth c C H' locs' ls hR hz' hlo' hl9
theorem J.callS (hc : μ.cm pc = some (.invokestatic idx, 3)) (M : jMeth μ') (hl : Cond.methodLink μ.y.cls idx μ'.y ∈ lw_tbl) (hV : Cond.static μ'.y ∈ lw_tbl) (hCT : CT γ μ' f' mc' ms' As h Q' X') (hst : stk = As.reverse ++ st) (hn : As.length = μ'.np) (hW : (st.map fun v => v.category).sum ≤ 8) (hf : f' + 1 ≤ f) (hm : cells + mc' ≤ mc) (hs : slots + ms' ≤ ms) (hp : pc + 3 = pc') (hh : μ.hh = []) (hX : ∀ E h', X' E h' → X E h')
    (kk : ∀ r h', Q' r h' → J γ μ f mc ms (cells + mc') (slots + ms') h' pc' lv (r.toList ++ st) Q X) : J γ μ f mc ms cells slots h pc lv stk Q X := by
  subst hp
  subst hst
  intro p e s m args below meth c C H locs ls hH hz hlo hl9
  refine jAfterX hz hlo (vx_runS (jFix C) hCT ⟨jCB C M hl hf, C.w hV rfl⟩ ⟨jBlind, jPre C hH⟩ rfl hn hl9.1 rfl (lv_room hW) (C.dec hc) ⟨hm, hs⟩) ?_ ?_
  · intro E h' H' locs' q ce hx hR hz' hlo' hce hcv hcl
    refine vx_out (fun x hx => ?_) C.locks hce hcv hcl (fun t ht _ => ⟨h', hX E h' hx, by rw [ht]; exact hR⟩) hlo' hm hs
    rw [C.tab, hh] at hx
    cases hx
  · intro r h' H' locs' hq' hR hz' hlo'
    exact kk r h' hq' p e s m args below meth c C H' locs' ls hR hz' hlo' hl9
theorem J.callSN {host : String} (hc : μ.cm pc = some (.invokestatic idx, 3)) (M : jMeth μ') (hl : Cond.methodLinkNest μ.y.cls idx μ'.y host ∈ lw_tbl) (hV : Cond.static μ'.y ∈ lw_tbl) (hCT : CT γ μ' f' mc' ms' As h Q' (fun _ _ => False)) (hst : stk = As.reverse ++ st) (hn : As.length = μ'.np) (hW : (st.map fun v => v.category).sum ≤ 8) (hf : f' + 1 ≤ f) (hm : cells + mc' ≤ mc) (hs : slots + ms' ≤ ms) (hp : pc + 3 = pc')
    (kk : ∀ r h', Q' r h' → J γ μ f mc ms (cells + mc') (slots + ms') h' pc' lv (r.toList ++ st) Q X) : J γ μ f mc ms cells slots h pc lv stk Q X := by
  subst hp
  subst hst
  intro p e s m args below meth c C H locs ls hH hz hlo hl9
  refine jAfter hz hlo (va_runSN (jFix C) hCT.met ⟨jCN C M hl hf, C.w hV rfl, trivial⟩ ⟨jBlind, jPre C hH⟩ rfl hn hl9.1 rfl (lv_room hW) (C.dec hc) ⟨hm, hs⟩) ?_
  intro r h' H' locs' hq' hR hz' hlo'
  exact kk r h' hq' p e s m args below meth c C H' locs' ls hR hz' hlo' hl9
theorem J.callI {b : Nat} (hc : μ.cm pc = some (.invokespecial idx, 3)) (M : jMeth μ') (hl : Cond.methodLink μ.y.cls idx μ'.y ∈ lw_tbl) (hV : Cond.instanceMethod μ'.y ∈ lw_tbl) (hi : μ'.y.name = "<init>" ∧ μ'.ret = none) (hCT : CT γ μ' f' mc' ms' (.ref b :: As) h Q' (fun _ _ => False)) (hst : stk = As.reverse ++ .ref b :: st) (hn : As.length = μ'.np) (hW : (st.map fun v => v.category).sum ≤ 8) (hf : f' + 1 ≤ f) (hm : cells + mc' ≤ mc) (hs : slots + ms' ≤ ms) (hp : pc + 3 = pc')
    (kk : ∀ r h', Q' r h' → J γ μ f mc ms (cells + mc') (slots + ms') h' pc' lv (r.toList ++ st) Q X) : J γ μ f mc ms cells slots h pc lv stk Q X := by
  subst hp
  subst hst
  intro p e s m args below meth c C H locs ls hH hz hlo hl9
  have cb := jCB (args := args) (f := f) (mc := mc) (ms := ms) (f' := f') (mc' := mc') (ms' := ms') C M hl hf
  rw [hi.2] at cb
  refine jAfter hz hlo (va_runI (jFix C) hCT.met ⟨cb, hi.1, C.w hV rfl⟩ ⟨jBlind, jPre C hH⟩ rfl hn hl9.1 rfl (lv_room hW) (C.dec hc) ⟨hm, hs⟩) ?_
  intro r h' H' locs' hq' hR hz' hlo'
  exact kk r h' hq' p e s m args below meth c C H' locs' ls hR hz' hlo' hl9
theorem J.callIN {b : Nat} {host : String} (hc : μ.cm pc = some (.invokespecial idx, 3)) (M : jMeth μ') (hl : Cond.methodLinkNest μ.y.cls idx μ'.y host ∈ lw_tbl) (hV : Cond.instanceMethod μ'.y ∈ lw_tbl) (hi : μ'.y.name = "<init>" ∧ μ'.ret = none) (hCT : CT γ μ' f' mc' ms' (.ref b :: As) h Q' (fun _ _ => False)) (hst : stk = As.reverse ++ .ref b :: st) (hn : As.length = μ'.np) (hW : (st.map fun v => v.category).sum ≤ 8) (hf : f' + 1 ≤ f) (hm : cells + mc' ≤ mc) (hs : slots + ms' ≤ ms) (hp : pc + 3 = pc')
    (kk : ∀ r h', Q' r h' → J γ μ f mc ms (cells + mc') (slots + ms') h' pc' lv (r.toList ++ st) Q X) : J γ μ f mc ms cells slots h pc lv stk Q X := by
  subst hp
  subst hst
  intro p e s m args below meth c C H locs ls hH hz hlo hl9
  have cb := jCN (args := args) (f := f) (mc := mc) (ms := ms) (f' := f') (mc' := mc') (ms' := ms') C M hl hf
  rw [hi.2] at cb
  refine jAfter hz hlo (va_runIN (jFix C) hCT.met ⟨cb, hi.1, C.w hV rfl⟩ ⟨jBlind, jPre C hH⟩ rfl hn hl9.1 rfl (lv_room hW) (C.dec hc) ⟨hm, hs⟩) ?_
  intro r h' H' locs' hq' hR hz' hlo'
  exact kk r h' hq' p e s m args below meth c C H' locs' ls hR hz' hlo' hl9
/-- Object.<init> -/
theorem J.objI {a : Nat} (hc : μ.cm pc = some (.invokespecial idx, 3)) (hl : Cond.methodLink μ.y.cls idx objectInit ∈ lw_tbl) (hi : Cond.instanceMethod objectInit ∈ lw_tbl) (hk : Cond.code objectInit ⟨#[0xb1]⟩ 1 none ∈ lw_tbl) (hf : 1 ≤ f) (hW : (st.map fun v => v.category).sum ≤ 8) (hp : pc + 3 = pc') (kk : J γ μ f mc ms cells slots h pc' lv st Q X) : J γ μ f mc ms cells slots h pc lv (.ref a :: st) Q X := by
  subst hp
  intro p e s m args below meth c C H locs ls hH hz hlo hl9
  refine W.objInit C.hx C.hb C.hown (C.w hl rfl) (C.w hi rfl) (C.w hk rfl) rfl (by rw [C.hml]; exact hl9.1) rfl (C.dec hc) hf ?_ (kk p e s m args below meth c C H locs ls hH hz hlo hl9)
  show 2 * 0 + _ + 12 ≤ f * 64
  omega
end JK
end
section
theorem jDef {ty : FieldType} : jVal ty 0 0 none = defaultValue ty := by cases ty <;> rfl
theorem jV_nw {h : jM} {q t n : Nat} : jV (h.nw q t n) t q = fun k => defaultValue (jTy t k) := by
  funext k
  unfold jV
  rw [jM.I_nw, jM.L_nw, jM.R_nw, if_pos ⟨rfl, rfl⟩, if_pos ⟨rfl, rfl⟩, if_pos ⟨rfl, rfl⟩, jDef]
section JN
variable {γ : jG} {μ : jMth} {f mc ms cells slots : Nat} {h : jM} {pc : Nat} {lv : List (Nat × Value)} {st : List Value} {Q : Option Value → jM → Prop} {X : String → jM → Prop}
def jNewW (own : String) (idx t N n : Nat) : Prop := 0 < t ∧ t < 20 ∧ ∃ q : vw_C, vwCl[t - 1]? = some q ∧ q.2.2 = N ∧ Cond.classLink own idx q.1 ∈ lw_tbl ∧ Cond.instantiable q.1 n ∈ lw_tbl ∧ Cond.initialized q.1 ∈ lw_tbl
theorem J.new {idx t N n : Nat} {pc' : Nat} (hc : μ.cm pc = some (.new idx, 3)) (hw : jNewW μ.y.cls idx t N n) (hm : cells + 1 ≤ mc) (hs : slots + n ≤ ms) (hp : pc + 3 = pc')
    (kk : ∀ q, h.tag q = 0 → γ.base ≤ q → J γ μ f mc ms (cells + 1) (slots + n) (h.nw q t N) pc' lv (.ref q :: st) Q X) : J γ μ f mc ms cells slots h pc lv st Q X := by
  subst hp
  intro p e s m args below meth c C H locs ls hH hz hlo hl
  obtain ⟨ht0, ht1, q, hq, hN, w1, w2, w3⟩ := hw
  subst hN
  have hKn := C.K.1 (t - 1) _ hq
  refine W.newcK C.hx C.hb C.hown (C.w w1 rfl) (C.w w2 rfl) (C.w w3 rfl) rfl (C.dec hc) hm hs hKn.2.1 rfl fun H1 kC hkC e1 z1 o1 => ?_
  have hb := u_born (args := args) (jTy t) (C.lays hq) (fun _ h => h) hKn hkC e1 (fun k hk => by
    have h1 := jTyOk hq k hk
    rwa [show t - 1 + 1 = t by omega] at h1)
  refine kk H.size hH.fresh hH.2.1 p e s m args below meth c C H1 locs ls (hH.new z1 o1 ⟨fun _ => ?_, fun h2 => ?_, fun _ _ => hH.2.1⟩) (by omega) hlo hl
  · rw [jM.tag_nw, if_pos rfl, jM.len_nw, if_pos rfl, jV_nw]
    exact ⟨q, hq, rfl, hb⟩
  · rw [jM.tag_nw, if_pos rfl] at h2
    omega
theorem J.newa {atype : ArrayType} {t : Nat} {n : Int} {pc' : Nat} (hc : μ.cm pc = some (.newarray atype, 2)) (h20 : 20 ≤ t) (hty : jE t = newarray.typeOf atype) (hin : jE t ∈ jTys) (hw : Cond.arrayClass (newarray.typeOf atype) ∈ lw_tbl) (h0 : 0 ≤ n) (hn : n ≤ 1000000) (hm : cells + 1 ≤ mc) (hs : slots + n.toNat ≤ ms) (hp : pc + 2 = pc')
    (kk : ∀ q, h.tag q = 0 → γ.base ≤ q → J γ μ f mc ms (cells + 1) (slots + n.toNat) (h.nw q t n.toNat) pc' lv (.ref q :: st) Q X) : J γ μ f mc ms cells slots h pc lv (.int (jI n) :: st) Q X := by
  subst hp
  intro p e s m args below meth c C H locs ls hH hz hlo hl
  have hr : r32 n := ⟨by omega, by omega⟩
  have hA := C.A hin
  rw [hty] at hA
  refine va_newaK C.hx C.hb (C.w hw rfl) rfl (C.dec hc) rfl ?_ (jI_ix hr h0) ?_ hm hs rfl fun H1 cA e1 z1 o1 hAr hNm => ?_
  · rw [Int32.lt_iff_toInt_lt, jI_toInt hr]
    show ¬ n < (0 : Int32).toInt
    have : (0 : Int32).toInt = 0 := rfl
    omega
  · have : componentBytes (newarray.typeOf atype) ≤ 8 := by cases atype <;> decide
    calc n.toNat * componentBytes (newarray.typeOf atype) ≤ n.toNat * 8 := Nat.mul_le_mul_left _ this
      _ ≤ 536870912 := by omega
  · have hcA : cA = γ.E (newarray.typeOf atype) := Option.some.inj (hNm.symm.trans hA.1)
    refine kk H.size hH.fresh hH.2.1 p e s m args below meth c C H1 locs ls (hH.new z1 o1 ⟨fun h2 => ?_, fun _ => ?_, fun _ _ => hH.2.1⟩) (by omega) hlo hl
    · rw [jM.tag_nw, if_pos rfl] at h2
      omega
    · rw [jM.tag_nw, if_pos rfl, jM.len_nw, if_pos rfl, jV_nw, e1, hcA, hty]
      simp only [jTyA h20, hty]
theorem J.anew {idx t : Nat} {cn : String} {n : Int} {pc' : Nat} (hc : μ.cm pc = some (.anewarray idx, 3)) (h20 : 20 ≤ t) (hty : jE t = .object cn) (hin : jE t ∈ jTys) (hw : Cond.classLink μ.y.cls idx cn ∈ lw_tbl) (hw2 : Cond.arrayOver (.object cn) ∈ lw_tbl) (h0 : 0 ≤ n) (hn : n ≤ 1000000) (hm : cells + 1 ≤ mc) (hs : slots + n.toNat ≤ ms) (hp : pc + 3 = pc')
    (kk : ∀ q, h.tag q = 0 → γ.base ≤ q → J γ μ f mc ms (cells + 1) (slots + n.toNat) (h.nw q t n.toNat) pc' lv (.ref q :: st) Q X) : J γ μ f mc ms cells slots h pc lv (.int (jI n) :: st) Q X := by
  subst hp
  intro p e s m args below meth c C H locs ls hH hz hlo hl
  have hr : r32 n := ⟨by omega, by omega⟩
  have hA := C.A hin
  rw [hty] at hA
  have hov : va_AO cn s := by
    obtain ⟨A, hA, -⟩ := C.F.2.1
    exact (va_AO.of (hA _ hw2)).moved C.warm.alike
  have hx := jI_ix hr h0
  refine W.anew C.hx C.hb C.hown (C.w hw rfl) (va_AO.use hov) rfl (C.dec hc) rfl ?_ (by rw [hx]; omega) hm (by rw [hx]; exact hs) fun cA kA comp f1 f2 f3 f4 => ?_
  · rw [Int32.lt_iff_toInt_lt, jI_toInt hr]
    have : (0 : Int32).toInt = 0 := rfl
    omega
  · rw [hx]
    have hcA : cA = γ.E (.object cn) := Option.some.inj (f1.symm.trans hA.1)
    refine kk H.size hH.fresh hH.2.1 p e s m args below meth c C _ locs ls (hH.new (by simp) (fun q hq => by rw [Array.getElem?_push, if_neg (Nat.ne_of_lt hq)]) ⟨fun h2 => ?_, fun _ => ?_, fun _ _ => hH.2.1⟩) (by simp; omega) hlo hl
    · rw [jM.tag_nw, if_pos rfl] at h2
      omega
    · rw [jM.tag_nw, if_pos rfl, jM.len_nw, if_pos rfl, jV_nw, Array.getElem?_push_size, arrV_new, hcA, hty]
      simp only [jTyA h20, hty]
      rfl
def jCst (own : String) (idx t : Nat) : Prop := 0 < t ∧ t < 20 ∧ ∃ (q : vw_C) (nm : String), vwCl[t - 1]? = some q ∧ Cond.classLink own idx nm ∈ lw_tbl ∧ (nm = q.1 ∨ Cond.castable q.1 nm ∈ lw_tbl)
theorem J.cast {idx t a : Nat} {pc' : Nat} (hc : μ.cm pc = some (.checkcast idx, 3)) (hw : jCst μ.y.cls idx t) (ha : h.tag a = t) (hp : pc + 3 = pc') (kk : J γ μ f mc ms cells slots h pc' lv (.ref a :: st) Q X) : J γ μ f mc ms cells slots h pc lv (.ref a :: st) Q X := by
  subst hp
  intro p e s m args below meth c C H locs ls hH hz hlo hl
  obtain ⟨ht0, ht1, q, nm, hq, w1, w2⟩ := hw
  have hrc := jRecv C hH ht0 ht1 ⟨q, hq, rfl⟩ ha
  rcases w2 with rfl | w2
  · exact va_castS C.hx C.hb C.hown (C.w w1 rfl) (C.K.1 (t - 1) q hq).2 hrc (C.dec hc) (kk p e s m args below meth c C H locs ls hH hz hlo hl)
  · have hcs : va_Nw (.castable q.1 nm) s := by
      obtain ⟨A, hA, -⟩ := C.F.2.1
      exact va_Nw.warmC C.warm (va_Nw.of rfl (hA _ w2))
    exact va_castY C.hx C.hb C.hown (C.w w1 rfl) hcs hrc (C.dec hc) (kk p e s m args below meth c C H locs ls hH hz hlo hl)
theorem J.ldc {idx : Nat} {z : Int} {v : Int32} {pc' : Nat} (hc : μ.cm pc = some (.ldc idx, 2)) (hw : Cond.constant μ.y.cls idx v ∈ lw_tbl) (hv : v = jI z) (hp : pc + 2 = pc') (kk : J γ μ f mc ms cells slots h pc' lv (.int (jI z) :: st) Q X) : J γ μ f mc ms cells slots h pc lv st Q X := by
  subst hp
  subst hv
  intro p e s m args below meth c C H locs ls hH hz hlo hl
  exact lv_ldc C.hx C.hb C.hown (C.w hw rfl) (C.dec hc) (kk p e s m args below meth c C H locs ls hH hz hlo hl)
theorem J.ldc2 {idx : Nat} {z : Int} {v : Int64} {pc' : Nat} (hc : μ.cm pc = some (.ldc2_w idx, 3)) (hw : Cond.constantLong μ.y.cls idx v ∈ lw_tbl) (hv : v = jL z) (hp : pc + 3 = pc') (kk : J γ μ f mc ms cells slots h pc' lv (.long (jL z) :: st) Q X) : J γ μ f mc ms cells slots h pc lv st Q X := by
  subst hp
  subst hv
  intro p e s m args below meth c C H locs ls hH hz hlo hl
  exact lv_ldc2 C.hx C.hb C.hown (C.w hw rfl) (C.dec hc) (kk p e s m args below meth c C H locs ls hH hz hlo hl)
end JN
end
section
section JT0
variable {p : Program} {l : Launch} {e : Env} {R : Room} {s : State} {m₀ : MethodId} {args : Array Value} {below : List Frame} {meth : Method} {c : Code} {W : State} {locs : List Loc} {cells slots : Nat}
/-- the words of 'new cls(text)' whose constructor passes its text on by the entry i1 of its pool -/
def jAtS (own : String) (ic : Nat) (cls Y : String) (i1 : Nat) (b1 : ByteArray) (names : List String) : List Cond :=
  Bundle.throwableAtoms ++ Bundle.throwableSAtoms ++ Bundle.passSAtoms cls Y i1 b1 ++ Bundle.chainSAtoms Y names ++
  [.methodLink own ic (Bundle.initS cls), .instantiable cls 6, .castable cls cls, .selects cls Bundle.tFill0 Bundle.tFill0, .selects cls Bundle.tFill Bundle.tFill,
   .lays cls Bundle.tN "cause" "Ljava/lang/Throwable;", .lays cls Bundle.tN "stackTrace" Bundle.steD, .lays cls Bundle.tN "suppressedExceptions" Bundle.listD, .lays cls Bundle.tN "detailMessage" "Ljava/lang/String;",
   .isRef (.static Bundle.tN "UNASSIGNED_STACK" Bundle.steD), .isRef (.static Bundle.tN "SUPPRESSED_SENTINEL" Bundle.listD),
   .fieldLink Bundle.tN 198 Bundle.tN "backtrace" "Ljava/lang/Object;", .lays Bundle.tN Bundle.tN "backtrace" "Ljava/lang/Object;", .lays cls Bundle.tN "backtrace" "Ljava/lang/Object;"]
set_option maxHeartbeats 2000000 in
theorem jCtorS (X : Stand p l e R s m₀ args below meth c W locs cells slots) (hexec : p.tables.exec = Jvm.exec) (htr : e.platform.stackTraces = false) {own cls Y1 : String} {names : List String} {ic i1 : Nat} {b1 : ByteArray}
    (hown : s.vm.findClass own = some m₀.cls) (hcls : Bundle.fit cls = true) (hY1 : Bundle.fit Y1 = true) (hnames : ∀ n ∈ names, Bundle.fit n = true)
    (k0 : decode b1 0 = .ok (.aload_n 0, 1)) (k1 : decode b1 1 = .ok (.aload_n 1, 1)) (k2 : decode b1 2 = .ok (.invokespecial i1, 3)) (k5 : decode b1 5 = .ok (.return_, 1))
    (h : ∀ a ∈ jAtS own ic cls Y1 i1 b1 names, a.before args s = true)
    (hlocs : ∀ x ∈ locs, ∀ cell, s.heap[x.base]? = some cell → cell.vm.isStatics = false)
    {a : Addr} {cX : ClassId} {kX : Class} (hfoundX : s.vm.findClass cls = some cX) (hkX : s.vm.classes[cX]? = some kX) (hcell : W.heap[a]? = some (freshCell cX kX)) (hnew : s.heap.size ≤ a)
    {msg : Value} (hmsg : msg.isRef = true)
    {g : JFrame} (hg : g.method = m₀) (hsize : g.locals.size = c.maxLocals) (hlocked : g.locked = none) (hentered : g.entered = []) {rest : List Value} (hstack : g.stack = msg :: .ref a :: .ref a :: rest)
    (hd6 : decode c.code g.pc = .ok (.invokespecial ic, 3)) (hd9 : decode c.code (g.pc + 3) = .ok (.athrow, 1)) (hout : ∀ x ∈ c.exceptionTable.toList, covers x (g.pc + 3) = false)
    (hRframes : names.length + 4 < R.frames) (hRlocals : 2 * g.monitorRoom + ((Value.ref a :: rest).map fun v => v.category).sum + (13 * (names.length + 2) + 42) ≤ R.locals) (hlocks : meth.locks = false) :
    ∃ U : State, Steps p.tables e below (W.setTop g) U ∧ U.status = .running ∧ Ended U below (.threw a) ∧ s.WarmedH U.vm ∧ s.sameButNew ({ U with vm := s.vm } : State) locs cells slots ∧
      ∃ ce, U.heap[a]? = some ce ∧ ce.vm = .none ∧ s.vm.findClass cls = some ce.cls := by
  have howns : e.platform.frameOwnsMonitors = true := by rw [X.admits.platform]
  have hfin : e.platform.finalization = false := by rw [X.admits.platform]
  have hpl : e.platform.magicAccessors = ({} : Platform).magicAccessors := by rw [X.admits.platform]
  have a' : ∀ x, x ∈ jAtS own ic cls Y1 i1 b1 names → x.holds args s none s [] = true := fun x hx => h x hx
  obtain ⟨T, Z0, L, -, Y⟩ := ThrowableC.of_atoms (args := args) howns hfin hpl (fun x hx => h x (by simp [jAtS, hx]))
  obtain ⟨Z, M, LZ, LM, hnZ⟩ := Init0T.ofS_atoms (args := args) hpl L Y (fun x hx => h x (by simp [jAtS, hx]))
  obtain ⟨P1, L1, hP1m, hP1s⟩ := PassC.ofS_atoms (args := args) (s := s) hpl (X := cls) (Y := Y1) (Bundle.fit_spec hcls).1 (Bundle.fit_spec hY1).2 k0 k1 k2 k5 (fun x hx => h x (by simp [jAtS, hx]))
  obtain ⟨P2, Ps2, hlen2, L2, hL2, hP2m, hlink2, hpass2⟩ := Bundle.chainS (args := args) hpl hnZ names Y1 hY1 hnames (fun x hx => h x (by simp [jAtS, hx]))
  have hlink1 : P1.sup = firstOf (Z.m T.toThrowableT) ((P2 :: Ps2).map (·.toPassT)) := Option.some.inj (hP1s.symm.trans hP2m)
  have hlink : PassesOn (Z.m T.toThrowableT) ((P2 :: Ps2).map (·.toPassT)) := ⟨hlink2, hpass2⟩
  have hL : ∀ P ∈ P2 :: Ps2, P.LinksS e.platform s := fun P hP => by
    rcases List.mem_cons.mp hP with rfl | hP
    · exact L2
    · exact hL2 P hP
  have hfound : s.vm.findClass cls = some P1.m.cls := findClass_of_methodNamed hP1m
  cases Option.some.inj (hfoundX.symm.trans hfound)
  obtain ⟨c1, kX', hc1, hk, hord, -, -, hn6⟩ := Cond.instantiable_spec (a' (.instantiable cls 6) (by simp [jAtS]))
  cases Option.some.inj (hc1.symm.trans hfound)
  cases Option.some.inj (hkX.symm.trans hk)
  have hsel0 : selectMethod e.platform s.vm P1.m.cls T.fill0 = .method T.fill0 := by
    obtain ⟨c2, r2, m2, q1, q2, q3, q4, -⟩ := Cond.selects_spec (a' (.selects cls Bundle.tFill0 Bundle.tFill0) (by simp [jAtS]))
    cases Option.some.inj (q1.symm.trans hfound)
    cases Option.some.inj (q2.symm.trans (State.methodFound?_of_named Y.fill0 (by decide)))
    cases Option.some.inj (q3.symm.trans Y.fill0)
    rw [Launch.admits_selectMethod X.admits]; exact q4
  have hselF : selectMethod e.platform s.vm P1.m.cls T.fill = .method T.fill := by
    obtain ⟨c2, r2, m2, q1, q2, q3, q4, -⟩ := Cond.selects_spec (a' (.selects cls Bundle.tFill Bundle.tFill) (by simp [jAtS]))
    cases Option.some.inj (q1.symm.trans hfound)
    cases Option.some.inj (q2.symm.trans (State.methodFound?_of_named Y.fill (by decide)))
    cases Option.some.inj (q3.symm.trans Y.fill)
    rw [Launch.admits_selectMethod X.admits]; exact q4
  obtain ⟨cellS0, hcS0, hiss⟩ := Y.statics
  obtain ⟨u0, hu0⟩ := Cond.staticRefV Y.unassigned L.unassignedStatic L.statics hcS0 hiss (a' (.isRef (.static Bundle.tN "UNASSIGNED_STACK" Bundle.steD)) (by simp [jAtS]))
  obtain ⟨sen, hsen⟩ := Cond.staticRefV Y.sentinel L.sentinelStatic L.statics hcS0 hiss (a' (.isRef (.static Bundle.tN "SUPPRESSED_SENTINEL" Bundle.listD)) (by simp [jAtS]))
  obtain ⟨ci198, i198, fB, hk198, hg198, ha198, hsB, -, hnB, htB, hffB⟩ := Cond.ownField (t := .object "java/lang/Object") Y.found L.cls (by decide +kernel) (a' (.fieldLink Bundle.tN 198 Bundle.tN "backtrace" "Ljava/lang/Object;") (by simp [jAtS])) (a' (.lays Bundle.tN Bundle.tN "backtrace" "Ljava/lang/Object;") (by simp [jAtS])) e.platform hpl
  obtain ⟨cellS, hcS', heS, -, hkeep⟩ := X.same.2.2.2.2.2 T.aS cellS0 hcS0
  have hcellS : W.heap[T.aS]? = some cellS := hcS'
  have hout' : ∀ i, (⟨T.aS, i⟩ : Loc) ∉ locs := fun i hmem => by
    have := hlocs _ hmem cellS0 hcS0
    rw [hiss] at this; cases this
  have hknownS : cellS.vm ≠ .unknown := by
    rw [heS]; intro hu
    rw [show cellS0.vm = .unknown from hu] at hiss
    cases hiss
  have hneS : T.aS ≠ a := Nat.ne_of_lt (Nat.lt_of_lt_of_le (Array.getElem?_eq_some_iff.mp hcS0).1 hnew)
  obtain ⟨iM, hffM⟩ := Y.msg
  obtain ⟨tyC, dC, hdC, hdnC⟩ := Cond.laysAt hfound hk Y.cause (a' (.lays cls Bundle.tN "cause" "Ljava/lang/Throwable;") (by simp [jAtS]))
  obtain ⟨tyS, dS, hdS, hdnS⟩ := Cond.laysAt hfound hk Y.stack (a' (.lays cls Bundle.tN "stackTrace" Bundle.steD) (by simp [jAtS]))
  obtain ⟨tyP, dP, hdP, hdnP⟩ := Cond.laysAt hfound hk Y.supp (a' (.lays cls Bundle.tN "suppressedExceptions" Bundle.listD) (by simp [jAtS]))
  obtain ⟨tyM, dM, hdM, hdnM⟩ := Cond.laysAt hfound hk hffM (a' (.lays cls Bundle.tN "detailMessage" "Ljava/lang/String;") (by simp [jAtS]))
  obtain ⟨tyB, dB, hdB, hdnB⟩ := Cond.laysAt hfound hk hffB (a' (.lays cls Bundle.tN "backtrace" "Ljava/lang/Object;") (by simp [jAtS]))
  have bC := Cond.laysApart hdB hdC hdnB hdnC (by rw [hnB, Y.causeName]; decide)
  have bS := Cond.laysApart hdB hdS hdnB hdnS (by rw [hnB, Y.stackName]; decide)
  have bP := Cond.laysApart hdB hdP hdnB hdnP (by rw [hnB, Y.suppName]; decide)
  have hskip : SkipFacts T e.platform s (fun u => u) u0 ((preparedCellV T.toThrowableT (freshCell P1.m.cls kX) a u0 sen).withEntry W.cur) :=
    ⟨{ ci198 := ci198, i198 := i198, fBack := fB }, ⟨hk198, hg198, ha198, hsB⟩, by
      have := fresh_default (c := P1.m.cls) tyB
      rw [htB] at this
      simpa [preparedCellV, Cell.setSlot, Cell.withEntry, Array.getElem?_setIfInBounds, bC, bS, bP, bC.symm, bS.symm, bP.symm, defaultValue] using this, fun _ _ => rfl⟩
  obtain ⟨tm, methC, cdC, kC, vm₁, hnC, -, -, -, -, -, -, -, hW₁, st1⟩ := Steps.initColdS (tb := p.tables) (e := e) (below := below) (s := s) (U := W) X.here hexec X.warmed hpl hown (t := Bundle.initS cls) rfl rfl (Bundle.fit_spec hcls).2
    (a' (.methodLink own ic (Bundle.initS cls)) (by simp [jAtS])) (h (.instanceMethod (Bundle.initS cls)) (by simp [jAtS, Bundle.passSAtoms])) (bytes := b1) (maxL := 2) (h (.code (Bundle.initS cls) b1 2 none) (by simp [jAtS, Bundle.passSAtoms]))
    (f := g) hg (a := a) (msg := msg) (rest := .ref a :: rest) hstack hd6
  cases Option.some.inj (hnC.symm.trans hP1m)
  have X₁ := X.noted hW₁
  obtain ⟨vm₂, X₂, st2⟩ := X₁.ctorMessageOffV hexec (g := { g with stack := .ref a :: rest }) hg hsize T L Z LZ M LM (P1 :: P2 :: Ps2)
    (fun P hP => by rcases List.mem_cons.mp hP with rfl | hP; exact L1; exact hL P hP) ⟨hlink1, hlink⟩ (u0 := u0) (sen := sen) (self := a) hmsg (cell := freshCell P1.m.cls kX) (cellS := cellS)
    hcell (fun _ => by simp) (by simp) rfl rfl hsel0 hselF hcellS hneS hknownS (by rw [hkeep _ (hout' _)]; exact hu0) (by rw [hkeep _ (hout' _)]; exact hsen)
    (Takes.of_laid hk hord tyC (by rw [Y.causeType]; rfl)) (Takes.of_laid hk hord tyS (by rw [Y.stackType]; exact fits_refV_array _ u0)) (Takes.of_laid hk hord tyP (by rw [Y.suppType]; exact fits_refV_object _ sen))
    (Takes.of_laid hk hord tyM (by rw [Y.msgType]; exact fits_refV_object _ ⟨msg, hmsg⟩)) Y.objLocals hskip htr [] hd6
    (by simp only [List.length_cons, hlen2]; omega) (by simp only [List.length_cons, hlen2]; exact hRlocals)
  obtain ⟨hwalk, hrun, hended, hWU, hsame⟩ := X₂.athrowLeaves hexec (g := { g with stack := .ref a :: rest, pc := g.pc + 3 }) hg hlocked hentered hout (a := a) (rest := rest) rfl hd9
  have hlt : a < ((W.setVm vm₁).setVm vm₂).heap.size := (Array.getElem?_eq_some_iff.mp hcell).1
  have hU := heapAt_setCell_self (s := (W.setVm vm₁).setVm vm₂) (plainBareV T.toThrowableT (freshCell P1.m.cls kX) a u0 sen msg) hlt
  refine ⟨_, st1 _ (fun acts => ?_), hrun, hended, hWU, hsame.weaken (fun y hy hlt' => ?_) (Nat.le_refl _) (Nat.le_refl _), _, hU, rfl, hfound⟩
  · rw [doInvoke_state]
    exact st2 _ hwalk
  · rcases List.mem_append.mp hy with h1 | h1
    · exact h1
    · exfalso
      have hb : y.base = a := by
        simp only [List.mem_cons, List.not_mem_nil, or_false] at h1
        rcases h1 with rfl | rfl | rfl | rfl | rfl <;> rfl
      rw [hb] at hlt'
      exact Nat.not_lt.mpr hnew hlt'
end JT0

set_option maxHeartbeats 1000000 in
theorem jThrowL {p : Program} {l : Launch} {e : Env} {R : Room} {s : State} {m : MethodId} {args : Array Value} {below : List Frame} {meth : Method} {c : Code} {H : Heap} {locs : List Loc} {cells slots : Nat} {ls : Array Slot} {rest : List Value} {Qc : Array Value → State → Outcome → State → Prop} {XC : String → State → State → Prop} {free : Addr → Prop} {cc : ByteArray} {pc : Nat} (hexec : p.tables.exec = Jvm.exec) (hb : c.code = cc) (hl : l.stackTraces = false) {own cls Y1 text : String} {names : List String} {ik is ic i1 mc ms sa : Nat} {b1 : ByteArray} {A : Nat → Prop}
    (hown : s.vm.findClass own = some m.cls) (hcls : Bundle.fit cls = true) (hY1 : Bundle.fit Y1 = true) (hnames : ∀ n ∈ names, Bundle.fit n = true)
    (k0 : decode b1 0 = .ok (.aload_n 0, 1)) (k1 : decode b1 1 = .ok (.aload_n 1, 1)) (k2 : decode b1 2 = .ok (.invokespecial i1, 3)) (k5 : decode b1 5 = .ok (.return_, 1))
    (hk : (Cond.classLink own ik cls).before args s = true) (hini : (Cond.initialized cls).before args s = true) (hstr : vk_R own is text sa s) (hat : ∀ w ∈ (jAtS own ic cls Y1 i1 b1 names).filter vx_no, w.before args s = true)
    (hgood : ∀ w ∈ Cond.classLink own ik cls :: Cond.initialized cls :: (jAtS own ic cls Y1 i1 b1 names).filter vx_no, vx_ot w = true)
    (hU : vx_Zq Bundle.tN "UNASSIGNED_STACK" Bundle.steD A s s.heap) (hN : vx_Zq Bundle.tN "SUPPRESSED_SENTINEL" Bundle.listD A s s.heap) (hS : va_S A s.heap H locs) (hsize : ls.size = c.maxLocals)
    (d0 : decode cc pc = .ok (.new ik, 3)) (d3 : decode cc (pc + 3) = .ok (.dup, 1)) (d4 : decode cc (pc + 4) = .ok (.ldc is, 2)) (d6 : decode cc (pc + 6) = .ok (.invokespecial ic, 3)) (d9 : decode cc (pc + 9) = .ok (.athrow, 1))
    (hout : ∀ x ∈ c.exceptionTable.toList, covers x (pc + 9) = false)
    (hRframes : names.length + 4 < R.frames) (hRlocals : (rest.map fun v => v.category).sum + (13 * (names.length + 2) + 43) ≤ R.locals) (hRcells : cells + 1 ≤ R.cells) (hRslots : slots + 6 ≤ R.slots) (hlocks : meth.locks = false)
    (hx : ∀ t : State, s.vm.Alike t.vm → H.size ≤ t.heap.size → (∀ q : Nat, q < H.size → t.heap[q]? = H[q]?) → XC cls s t)
    (hf : ∀ z ∈ locs, free z.base) (hc : cells + 1 ≤ mc) (hs : slots + 6 ≤ ms) :
    W p l e R s m args below meth c H locs cells slots (vx_MQ below Qc XC args s mc ms free) (F0 m pc ls rest) := by
  intro T hT X
  have htr : e.platform.stackTraces = false := (show e.platform.stackTraces = l.stackTraces by rw [X.admits.platform]).trans hl
  have Y := vx_rebase X (R' := { frames := R.frames, locals := R.locals, cells := 1, slots := 6 }) (Nat.le_refl _) (Nat.le_refl _) hRcells hRslots
  obtain ⟨s', hA⟩ : ∃ z, z = (T.setVm s.vm).setFrames (.invoking m args :: below) := ⟨_, rfl⟩
  rw [← hA] at Y
  have hvm : s'.vm = s.vm := by rw [hA]; rfl
  have hhp : s'.heap = H := by rw [hA]; exact hT
  have hW0 : s.WarmedH s'.vm := by rw [hvm]; exact State.WarmedH.refl s
  have hat' : ∀ w ∈ (jAtS own ic cls Y1 i1 b1 names).filter vx_no, w.before args s' = true := fun w hw => vx_ot_at hW0 hvm.symm (hgood w (List.mem_cons_of_mem _ (List.mem_cons_of_mem _ hw))) (hat w hw)
  have hk' : (Cond.classLink own ik cls).before args s' = true := vx_ot_at hW0 hvm.symm (hgood _ List.mem_cons_self) hk
  have hini' : (Cond.initialized cls).before args s' = true := vx_ot_at hW0 hvm.symm (hgood _ (List.mem_cons_of_mem _ List.mem_cons_self)) hini
  have hU' : vx_Zq Bundle.tN "UNASSIGNED_STACK" Bundle.steD A s' s'.heap := by rw [hhp]; exact vx_Zq.moved hW0.alike (hU.kept hS.2.1)
  have hN' : vx_Zq Bundle.tN "SUPPRESSED_SENTINEL" Bundle.listD A s' s'.heap := by rw [hhp]; exact vx_Zq.moved hW0.alike (hN.kept hS.2.1)
  have h : ∀ w ∈ jAtS own ic cls Y1 i1 b1 names, w.before args s' = true := vx_own hat' (vx_isRefq hU'.1) (vx_isRefq hN'.1) hU'.2.word hN'.2.word
  have hown' : s'.vm.findClass own = some m.cls := by rw [hvm]; exact hown
  have hins : (Cond.instantiable cls 6).before args s' = true := h _ (by simp [jAtS])
  obtain ⟨vm₁, cX, kX, hfX, hkX, -, -, X₁, st1⟩ := Y.newCold hexec (own := own) (C := cls) (index := ik) (n := 6) hown' hk' hins hini'
    (g := F0 m pc ls rest) rfl (by rw [hb]; exact d0) (Nat.le_refl _) (Nat.le_refl _)
  generalize hT1 : (T.setVm vm₁).pushCell { cls := cX, slots := kX.instanceTypes.map defaultValue, vm := .none } = T1 at X₁ st1
  have hcat : (Value.ref T.heap.size).category = 1 := rfl
  have hcellA : T1.heap[T.heap.size]? = some (freshCell cX kX) := by rw [← hT1]; exact State.heap_pushCell_size _ _
  have d3' : decode c.code (pc + 3) = .ok (.dup, 1) := by rw [hb]; exact d3
  have d4' : decode c.code (pc + 4) = .ok (.ldc is, 2) := by rw [hb]; exact d4
  have hstr' : vk_R own is text sa s' := vk_R.warm hW0 hstr
  obtain ⟨U, hsteps, hrun, hend, hW, hsame, ce, hce, hcv, hcc⟩ := jCtorS X₁ hexec htr (own := own) (cls := cls) (Y1 := Y1) (names := names) (ic := ic) (i1 := i1) (b1 := b1) hown' hcls hY1 hnames k0 k1 k2 k5 h (fun x hx => nomatch hx) hfX hkX hcellA (by rw [hhp, hT]; exact Nat.le_refl _) (msg := .ref sa) rfl
    (g := { method := m, pc := pc + 6, locals := ls, stack := .ref sa :: .ref T.heap.size :: .ref T.heap.size :: rest, locked := none }) rfl hsize rfl rfl (rest := rest) rfl
    (by rw [hb]; exact d6) (by rw [hb]; exact d9) hout hRframes (by
      show 2 * 0 + _ + _ ≤ _
      simp only [List.map_cons, List.sum_cons, hcat]
      omega) hlocks
  obtain ⟨f1, f2⟩ := vx_frame hsame
  rw [hhp] at f1 f2
  have hWs : s.WarmedH U.vm := State.WarmedH.trans hW0 hW
  have hcl : s.vm.findClass cls = some ce.cls := by
    rw [hvm] at hcc
    exact hcc
  have hall : s.sameButNew ({ U with vm := s.vm } : State) locs mc ms := by
    subst hA
    obtain ⟨e1, e2⟩ := hsame
    rw [State.setFrames_setFrames] at e1
    have h2 : (T.setVm s.vm).sameButNew ({ U with vm := s.vm } : State) [] (0 + 1) (0 + 6) := ⟨e1, e2⟩
    have h3 := X.same.trans h2
    rw [List.append_nil] at h3
    exact h3.mono hc hs
  refine ⟨U, ?_, .threw T.heap.size, hrun, hend, Or.inr ⟨T.heap.size, rfl, cls, ce, locs, hx U hWs.alike f1 (fun q hq => f2 q hq (fun z hz => nomatch hz)), hce, hcv, hcl, hWs, hall, hf⟩⟩
  refine st1 _ ?_
  show Steps p.tables e below (T1.setTop { method := m, pc := pc + 3, locals := ls, stack := .ref T.heap.size :: rest, locked := none }) _
  jvm_step X₁.here [X₁.here.top, hexec, d3', Value.category]
  exact X₁.ldcString hexec (own := own) (text := text) (index := is) (a := sa) hown' hstr'.1 hstr'.2
    (g := { method := m, pc := pc + 4, locals := ls, stack := .ref T.heap.size :: .ref T.heap.size :: rest, locked := none }) rfl d4' _ hsteps

set_option maxHeartbeats 1000000 in
theorem jThrowW {p : Program} {l : Launch} {e : Env} {R : Room} {s : State} {m : MethodId} {args : Array Value} {below : List Frame} {meth : Method} {c : Code} {H : Heap} {locs : List Loc} {cells slots : Nat} {ls : Array Slot} {rest : List Value} {Qc : Array Value → State → Outcome → State → Prop} {XC : String → State → State → Prop} {free : Addr → Prop} {cc : ByteArray} {pc : Nat} (hexec : p.tables.exec = Jvm.exec) (hb : c.code = cc) (hl : l.stackTraces = false) {own cls Y1 text : String} {names : List String} {ik is ic i1 mc ms sa : Nat} {b1 : ByteArray} {A : Nat → Prop}
    (hown : s.vm.findClass own = some m.cls) (hcls : Bundle.fit cls = true) (hY1 : Bundle.fit Y1 = true) (hnames : ∀ n ∈ names, Bundle.fit n = true)
    (k0 : decode b1 0 = .ok (.aload_n 0, 1)) (k1 : decode b1 1 = .ok (.aload_n 1, 1)) (k2 : decode b1 2 = .ok (.invokespecial i1, 3)) (k5 : decode b1 5 = .ok (.return_, 1))
    (hk : (Cond.classLink own ik cls).before args s = true) (hini : (Cond.initialized cls).before args s = true) (hstr : vk_R own is text sa s) (hat : ∀ w ∈ (jAtS own ic cls Y1 i1 b1 names).filter vx_no, w.before args s = true)
    (hgood : ∀ w ∈ Cond.classLink own ik cls :: Cond.initialized cls :: (jAtS own ic cls Y1 i1 b1 names).filter vx_no, vx_ot w = true)
    (hU : vx_Zq Bundle.tN "UNASSIGNED_STACK" Bundle.steD A s s.heap) (hN : vx_Zq Bundle.tN "SUPPRESSED_SENTINEL" Bundle.listD A s s.heap) (hS : va_S A s.heap H locs) (hsize : ls.size = c.maxLocals)
    (d0 : decode cc pc = .ok (.new ik, 3)) (d3 : decode cc (pc + 3) = .ok (.dup, 1)) (d4 : decode cc (pc + 4) = .ok (.ldc_w is, 3)) (d6 : decode cc (pc + 7) = .ok (.invokespecial ic, 3)) (d9 : decode cc (pc + 10) = .ok (.athrow, 1))
    (hout : ∀ x ∈ c.exceptionTable.toList, covers x (pc + 10) = false)
    (hRframes : names.length + 4 < R.frames) (hRlocals : (rest.map fun v => v.category).sum + (13 * (names.length + 2) + 43) ≤ R.locals) (hRcells : cells + 1 ≤ R.cells) (hRslots : slots + 6 ≤ R.slots) (hlocks : meth.locks = false)
    (hx : ∀ t : State, s.vm.Alike t.vm → H.size ≤ t.heap.size → (∀ q : Nat, q < H.size → t.heap[q]? = H[q]?) → XC cls s t)
    (hf : ∀ z ∈ locs, free z.base) (hc : cells + 1 ≤ mc) (hs : slots + 6 ≤ ms) :
    W p l e R s m args below meth c H locs cells slots (vx_MQ below Qc XC args s mc ms free) (F0 m pc ls rest) := by
  intro T hT X
  have htr : e.platform.stackTraces = false := (show e.platform.stackTraces = l.stackTraces by rw [X.admits.platform]).trans hl
  have Y := vx_rebase X (R' := { frames := R.frames, locals := R.locals, cells := 1, slots := 6 }) (Nat.le_refl _) (Nat.le_refl _) hRcells hRslots
  obtain ⟨s', hA⟩ : ∃ z, z = (T.setVm s.vm).setFrames (.invoking m args :: below) := ⟨_, rfl⟩
  rw [← hA] at Y
  have hvm : s'.vm = s.vm := by rw [hA]; rfl
  have hhp : s'.heap = H := by rw [hA]; exact hT
  have hW0 : s.WarmedH s'.vm := by rw [hvm]; exact State.WarmedH.refl s
  have hat' : ∀ w ∈ (jAtS own ic cls Y1 i1 b1 names).filter vx_no, w.before args s' = true := fun w hw => vx_ot_at hW0 hvm.symm (hgood w (List.mem_cons_of_mem _ (List.mem_cons_of_mem _ hw))) (hat w hw)
  have hk' : (Cond.classLink own ik cls).before args s' = true := vx_ot_at hW0 hvm.symm (hgood _ List.mem_cons_self) hk
  have hini' : (Cond.initialized cls).before args s' = true := vx_ot_at hW0 hvm.symm (hgood _ (List.mem_cons_of_mem _ List.mem_cons_self)) hini
  have hU' : vx_Zq Bundle.tN "UNASSIGNED_STACK" Bundle.steD A s' s'.heap := by rw [hhp]; exact vx_Zq.moved hW0.alike (hU.kept hS.2.1)
  have hN' : vx_Zq Bundle.tN "SUPPRESSED_SENTINEL" Bundle.listD A s' s'.heap := by rw [hhp]; exact vx_Zq.moved hW0.alike (hN.kept hS.2.1)
  have h : ∀ w ∈ jAtS own ic cls Y1 i1 b1 names, w.before args s' = true := vx_own hat' (vx_isRefq hU'.1) (vx_isRefq hN'.1) hU'.2.word hN'.2.word
  have hown' : s'.vm.findClass own = some m.cls := by rw [hvm]; exact hown
  have hins : (Cond.instantiable cls 6).before args s' = true := h _ (by simp [jAtS])
  obtain ⟨vm₁, cX, kX, hfX, hkX, -, -, X₁, st1⟩ := Y.newCold hexec (own := own) (C := cls) (index := ik) (n := 6) hown' hk' hins hini'
    (g := F0 m pc ls rest) rfl (by rw [hb]; exact d0) (Nat.le_refl _) (Nat.le_refl _)
  generalize hT1 : (T.setVm vm₁).pushCell { cls := cX, slots := kX.instanceTypes.map defaultValue, vm := .none } = T1 at X₁ st1
  have hcat : (Value.ref T.heap.size).category = 1 := rfl
  have hcellA : T1.heap[T.heap.size]? = some (freshCell cX kX) := by rw [← hT1]; exact State.heap_pushCell_size _ _
  have d3' : decode c.code (pc + 3) = .ok (.dup, 1) := by rw [hb]; exact d3
  have d4' : decode c.code (pc + 4) = .ok (.ldc_w is, 3) := by rw [hb]; exact d4
  have hstr' : vk_R own is text sa s' := vk_R.warm hW0 hstr
  obtain ⟨U, hsteps, hrun, hend, hW, hsame, ce, hce, hcv, hcc⟩ := jCtorS X₁ hexec htr (own := own) (cls := cls) (Y1 := Y1) (names := names) (ic := ic) (i1 := i1) (b1 := b1) hown' hcls hY1 hnames k0 k1 k2 k5 h (fun x hx => nomatch hx) hfX hkX hcellA (by rw [hhp, hT]; exact Nat.le_refl _) (msg := .ref sa) rfl
    (g := { method := m, pc := pc + 7, locals := ls, stack := .ref sa :: .ref T.heap.size :: .ref T.heap.size :: rest, locked := none }) rfl hsize rfl rfl (rest := rest) rfl
    (by rw [hb]; exact d6) (by rw [hb]; exact d9) hout hRframes (by
      show 2 * 0 + _ + _ ≤ _
      simp only [List.map_cons, List.sum_cons, hcat]
      omega) hlocks
  obtain ⟨f1, f2⟩ := vx_frame hsame
  rw [hhp] at f1 f2
  have hWs : s.WarmedH U.vm := State.WarmedH.trans hW0 hW
  have hcl : s.vm.findClass cls = some ce.cls := by
    rw [hvm] at hcc
    exact hcc
  have hall : s.sameButNew ({ U with vm := s.vm } : State) locs mc ms := by
    subst hA
    obtain ⟨e1, e2⟩ := hsame
    rw [State.setFrames_setFrames] at e1
    have h2 : (T.setVm s.vm).sameButNew ({ U with vm := s.vm } : State) [] (0 + 1) (0 + 6) := ⟨e1, e2⟩
    have h3 := X.same.trans h2
    rw [List.append_nil] at h3
    exact h3.mono hc hs
  refine ⟨U, ?_, .threw T.heap.size, hrun, hend, Or.inr ⟨T.heap.size, rfl, cls, ce, locs, hx U hWs.alike f1 (fun q hq => f2 q hq (fun z hz => nomatch hz)), hce, hcv, hcl, hWs, hall, hf⟩⟩
  refine st1 _ ?_
  show Steps p.tables e below (T1.setTop { method := m, pc := pc + 3, locals := ls, stack := .ref T.heap.size :: rest, locked := none }) _
  jvm_step X₁.here [X₁.here.top, hexec, d3', Value.category]
  exact X₁.ldcStringW hexec (own := own) (text := text) (index := is) (a := sa) hown' hstr'.1 hstr'.2
    (g := { method := m, pc := pc + 4, locals := ls, stack := .ref T.heap.size :: .ref T.heap.size :: rest, locked := none }) rfl d4' _ hsteps
end
section

def jgw (w : Cond) : Bool := match w with
  | .castable _ _ => true
  | .declares _ => true
  | w => goodWord w
theorem jC.w3 {γ : jG} {μ : jMth} {p : Program} {s : State} {m : MethodId} {meth : Method} {c : Code} (C : jC γ μ p s m meth c) {w : Cond} (hw : w ∈ lw_tbl) (hg : jgw w = true) {args : Array Value} : w.before args s = true := by
  obtain ⟨A, h, -⟩ := C.F.2.1
  have h0 := h w hw
  cases w <;> first | exact (va_Nw.warmC C.warm (va_Nw.of rfl h0)).use rfl | exact (va_Nw.warmD C.warm (va_Nw.of rfl h0)).use rfl | exact C.w hw hg
theorem jC.str {γ : jG} {μ : jMth} {p : Program} {s : State} {m : MethodId} {meth : Method} {c : Code} (C : jC γ μ p s m meth c) {own text : String} {k : Nat} (hw : Cond.stringRef own k text ∈ lw_tbl) : ∃ a, vk_R own k text a s := by
  obtain ⟨A, h, -⟩ := C.F.2.1
  have h0 := h _ hw
  cases hc : γ.s.vm.findClass own with
  | none => simp [Cond.before, Cond.holds, Cond.value, hc] at h0
  | some cur =>
    obtain ⟨k', cf, i, a, -, -, -, -, -, he⟩ := Cond.stringRef_spec hc h0
    exact ⟨a, vk_R.warm C.warm (vk_R.of h0 he)⟩
theorem jC.vS {γ : jG} {μ : jMth} {p : Program} {s : State} {m : MethodId} {meth : Method} {c : Code} {h : jM} (C : jC γ μ p s m meth c) {H : Heap} {locs : List Loc} (hH : jRH γ h H) (hz : s.heap.size ≤ H.size) (hlo : ∀ q ∈ locs, γ.base ≤ q.base) : va_S (jFree γ) s.heap H locs := ⟨hz, fun q _ h2 => (hH.1 q (Nat.not_le.mp h2)).trans (C.old q (Nat.not_le.mp h2)).symm, hlo⟩
theorem jC.zq {γ : jG} {μ : jMth} {p : Program} {s : State} {m : MethodId} {meth : Method} {c : Code} (C : jC γ μ p s m meth c) {cn n d : String} (w1 : Cond.laysStatic cn n d ∈ lw_tbl) (w2 : Cond.initialized cn ∈ lw_tbl) (w3 : Cond.isRef (.static cn n d) ∈ flatC (Jvm.Cond.and given_1 narrow_1)) : vx_Zq cn n d (jFree γ) s s.heap := by
  obtain ⟨A, h, hg⟩ := C.F.2.1
  have h0 : vx_Zq cn n d (jFree γ) γ.s γ.s.heap := vx_Zqof (h _ w1) (h _ w2) (flat_of_before _ hg _ w3) (fun a ha hb => absurd hb (Nat.not_le.mpr ha))
  exact (vx_Zq.moved C.warm.alike h0).kept (fun a ha _ => C.old a ha)
theorem jZ_U1 : Cond.laysStatic Bundle.tN "UNASSIGNED_STACK" Bundle.steD ∈ lw_tbl := by decide +kernel
theorem jZ_U2 : Cond.isRef (.static Bundle.tN "UNASSIGNED_STACK" Bundle.steD) ∈ flatC (Jvm.Cond.and given_1 narrow_1) := by decide +kernel
theorem jZ_N1 : Cond.laysStatic Bundle.tN "SUPPRESSED_SENTINEL" Bundle.listD ∈ lw_tbl := by decide +kernel
theorem jZ_N2 : Cond.isRef (.static Bundle.tN "SUPPRESSED_SENTINEL" Bundle.listD) ∈ flatC (Jvm.Cond.and given_1 narrow_1) := by decide +kernel
theorem jZ_T : Cond.initialized Bundle.tN ∈ lw_tbl := by decide +kernel
def jThr (own : String) (ic : Nat) (cls : String) (i1 : Nat) (b1 : ByteArray) : Prop := Bundle.fit cls = true ∧ (decode b1 0 = .ok (.aload_n 0, 1) ∧ decode b1 1 = .ok (.aload_n 1, 1) ∧ decode b1 2 = .ok (.invokespecial i1, 3) ∧ decode b1 5 = .ok (.return_, 1)) ∧ (∀ w ∈ (jAtS own ic cls "java/lang/RuntimeException" i1 b1 ["java/lang/Exception"]).filter vx_no, (w ∈ lw_tbl ∧ jgw w = true) ∧ vx_ot w = true) ∧ Cond.initialized cls ∈ lw_tbl
theorem jThr_of {own : String} {ic : Nat} {cls : String} {i1 : Nat} {b1 : ByteArray} (h1 : Bundle.fit cls = true) (h2 : decode b1 0 = .ok (.aload_n 0, 1) ∧ decode b1 1 = .ok (.aload_n 1, 1) ∧ decode b1 2 = .ok (.invokespecial i1, 3) ∧ decode b1 5 = .ok (.return_, 1)) (h3 : ((jAtS own ic cls "java/lang/RuntimeException" i1 b1 ["java/lang/Exception"]).filter vx_no).all (fun w => (decide (w ∈ lw_tbl) && jgw w) && vx_ot w) = true) (h4 : Cond.initialized cls ∈ lw_tbl) : jThr own ic cls i1 b1 :=
  ⟨h1, h2, fun w hw => by
    have := List.all_eq_true.mp h3 w hw
    simp only [Bool.and_eq_true, decide_eq_true_eq] at this
    exact this, h4⟩
theorem jThr_IAE : jThr "ScrapYard" 108 "java/lang/IllegalArgumentException" 7 Bundle.six := jThr_of (by decide) (by decide) (by decide +kernel) (by decide +kernel)
theorem jThr_ISE : jThr "ScrapYard" 117 "java/lang/IllegalStateException" 7 Bundle.six := jThr_of (by decide) (by decide) (by decide +kernel) (by decide +kernel)
theorem jThr_NSE : jThr "ScrapYard" 241 "java/util/NoSuchElementException" 13 prog_37_method_4_code := jThr_of (by decide) (by decide +kernel) (by decide +kernel) (by decide +kernel)
theorem jThr_IAS : jThr "ScrapYard$Spans" 45 "java/lang/IllegalArgumentException" 7 Bundle.six := jThr_of (by decide) (by decide) (by decide +kernel) (by decide +kernel)

theorem J.throwL {γ : jG} {μ : jMth} {f mc ms cells slots : Nat} {h : jM} {pc : Nat} {lv : List (Nat × Value)} {st : List Value} {Q : Option Value → jM → Prop} {X : String → jM → Prop} {ik is ic i1 : Nat} {cls text : String} {b1 : ByteArray} (d0 : μ.cm pc = some (.new ik, 3)) (d3 : μ.cm (pc + 3) = some (.dup, 1)) (d4 : μ.cm (pc + 4) = some (.ldc is, 2)) (d6 : μ.cm (pc + 6) = some (.invokespecial ic, 3)) (d9 : μ.cm (pc + 9) = some (.athrow, 1))
    (ht : jThr μ.y.cls ic cls i1 b1) (hk : Cond.classLink μ.y.cls ik cls ∈ lw_tbl) (hstr : Cond.stringRef μ.y.cls is text ∈ lw_tbl) (hh : μ.hh = []) (hf : 6 ≤ f) (hW : (st.map fun v => v.category).sum ≤ 8) (hm : cells + 1 ≤ mc) (hs : slots + 6 ≤ ms) (hX : X cls h) : J γ μ f mc ms cells slots h pc lv st Q X := by
  intro p e s m args below meth c C H locs ls hH hz hlo hl
  obtain ⟨sa, hsa⟩ := C.str hstr
  obtain ⟨t1, ⟨k0, k1, k2, k5⟩, t3, t4⟩ := ht
  refine jThrowL (names := ["java/lang/Exception"]) (Y1 := "java/lang/RuntimeException") (A := jFree γ) C.hx C.hb C.F.1 C.hown t1 (by decide) (by decide) k0 k1 k2 k5 (C.w hk rfl) (C.w t4 rfl) hsa (fun w hw => C.w3 (t3 w hw).1.1 (t3 w hw).1.2) (fun w hw => ?_) (C.zq jZ_U1 jZ_T jZ_U2) (C.zq jZ_N1 jZ_T jZ_N2) (C.vS hH hz hlo) (by rw [C.hml]; exact hl.1) (C.dec d0) (C.dec d3) (C.dec d4) (C.dec d6) (C.dec d9) (fun x hx => ?_) ?_ ?_ hm hs C.locks (fun t _ h1 h2 => ⟨h, hX, hH.moved h1 h2⟩) hlo hm hs
  · rcases List.mem_cons.mp hw with rfl | hw
    · rfl
    · rcases List.mem_cons.mp hw with rfl | hw
      · rfl
      · exact (t3 w hw).2
  · rw [C.tab, hh] at hx
    cases hx
  · show 1 + 4 < f
    omega
  · show _ + (13 * (1 + 2) + 43) ≤ f * 64
    omega
theorem J.throwW {γ : jG} {μ : jMth} {f mc ms cells slots : Nat} {h : jM} {pc : Nat} {lv : List (Nat × Value)} {st : List Value} {Q : Option Value → jM → Prop} {X : String → jM → Prop} {ik is ic i1 : Nat} {cls text : String} {b1 : ByteArray} (d0 : μ.cm pc = some (.new ik, 3)) (d3 : μ.cm (pc + 3) = some (.dup, 1)) (d4 : μ.cm (pc + 4) = some (.ldc_w is, 3)) (d6 : μ.cm (pc + 7) = some (.invokespecial ic, 3)) (d9 : μ.cm (pc + 10) = some (.athrow, 1))
    (ht : jThr μ.y.cls ic cls i1 b1) (hk : Cond.classLink μ.y.cls ik cls ∈ lw_tbl) (hstr : Cond.stringRef μ.y.cls is text ∈ lw_tbl) (hh : μ.hh = []) (hf : 6 ≤ f) (hW : (st.map fun v => v.category).sum ≤ 8) (hm : cells + 1 ≤ mc) (hs : slots + 6 ≤ ms) (hX : X cls h) : J γ μ f mc ms cells slots h pc lv st Q X := by
  intro p e s m args below meth c C H locs ls hH hz hlo hl
  obtain ⟨sa, hsa⟩ := C.str hstr
  obtain ⟨t1, ⟨k0, k1, k2, k5⟩, t3, t4⟩ := ht
  refine jThrowW (names := ["java/lang/Exception"]) (Y1 := "java/lang/RuntimeException") (A := jFree γ) C.hx C.hb C.F.1 C.hown t1 (by decide) (by decide) k0 k1 k2 k5 (C.w hk rfl) (C.w t4 rfl) hsa (fun w hw => C.w3 (t3 w hw).1.1 (t3 w hw).1.2) (fun w hw => ?_) (C.zq jZ_U1 jZ_T jZ_U2) (C.zq jZ_N1 jZ_T jZ_N2) (C.vS hH hz hlo) (by rw [C.hml]; exact hl.1) (C.dec d0) (C.dec d3) (C.dec d4) (C.dec d6) (C.dec d9) (fun x hx => ?_) ?_ ?_ hm hs C.locks (fun t _ h1 h2 => ⟨h, hX, hH.moved h1 h2⟩) hlo hm hs
  · rcases List.mem_cons.mp hw with rfl | hw
    · rfl
    · rcases List.mem_cons.mp hw with rfl | hw
      · rfl
      · exact (t3 w hw).2
  · rw [C.tab, hh] at hx
    cases hx
  · show 1 + 4 < f
    omega
  · show _ + (13 * (1 + 2) + 43) ≤ f * 64
    omega
end
section
def jChk (cc : ByteArray) (pc : Nat) (o : Option (Instr × Nat)) : Bool := match o with
  | none => true
  | some x => decide (decode cc pc = .ok x)
theorem jDec {cc : ByteArray} {n : Nat} {t : Nat → Option (Instr × Nat)} (h : (List.range n).all (fun pc => jChk cc pc (t pc)) = true) : ∀ pc x, (bif Nat.blt pc n then t pc else none) = some x → decode cc pc = .ok x := by
  intro pc x hx
  cases hb : Nat.blt pc n with
  | false => rw [hb] at hx; cases hx
  | true =>
    rw [hb, cond_true] at hx
    have h1 := List.all_eq_true.mp h pc (List.mem_range.mpr (Nat.le_of_ble_eq_true hb))
    rw [hx] at h1
    simpa [jChk] using h1
def jHd (y : MethodName) (mL np : Nat) : Bool := decide (y.cls ≠ "java/lang/invoke/MethodHandle") && decide (y.cls ≠ "java/lang/invoke/VarHandle") && plainName y.cls && Nat.ble mL 45 && decide ((parseMethodDescriptor y.desc).map (fun d => d.parameters.length) = some np)
theorem jMeth_of {y : MethodName} {cc : ByteArray} {mL np n : Nat} {ret : Option FieldType} {t : Nat → Option (Instr × Nat)} (h1 : Cond.code y cc mL ret ∈ lw_tbl) (h2 : Cond.initialized y.cls ∈ lw_tbl) (h3 : jHd y mL np = true) (h4 : (List.range n).all (fun pc => jChk cc pc (t pc)) = true) : jMeth (y, cc, mL, ret, [], np, fun pc => bif Nat.blt pc n then t pc else none) := by
  unfold jHd at h3
  simp only [Bool.and_eq_true, decide_eq_true_eq] at h3
  obtain ⟨⟨⟨⟨a1, a2⟩, a3⟩, a4⟩, a5⟩ := h3
  exact ⟨rfl, h1, h2, ⟨a1, a2⟩, a3, Nat.le_of_ble_eq_true a4, a5, jDec h4⟩
theorem ini_RX0 : Cond.initialized RX0 ∈ lw_tbl := List.mem_of_getElem? (i := 69) (by decide +kernel)
theorem ini_RX1 : Cond.initialized RX1 ∈ lw_tbl := List.mem_of_getElem? (i := 91) (by decide +kernel)
theorem ini_RX2 : Cond.initialized RX2 ∈ lw_tbl := List.mem_of_getElem? (i := 92) (by decide +kernel)
theorem ini_RX3 : Cond.initialized RX3 ∈ lw_tbl := List.mem_of_getElem? (i := 94) (by decide +kernel)
theorem ini_RX4 : Cond.initialized RX4 ∈ lw_tbl := List.mem_of_getElem? (i := 74) (by decide +kernel)
theorem ini_RX5 : Cond.initialized RX5 ∈ lw_tbl := List.mem_of_getElem? (i := 76) (by decide +kernel)
theorem ini_RX6 : Cond.initialized RX6 ∈ lw_tbl := List.mem_of_getElem? (i := 96) (by decide +kernel)
theorem ini_RX7 : Cond.initialized RX7 ∈ lw_tbl := List.mem_of_getElem? (i := 95) (by decide +kernel)
theorem ini_RX8 : Cond.initialized RX8 ∈ lw_tbl := List.mem_of_getElem? (i := 97) (by decide +kernel)
theorem ini_RX9 : Cond.initialized RX9 ∈ lw_tbl := List.mem_of_getElem? (i := 88) (by decide +kernel)
theorem ini_RX10 : Cond.initialized RX10 ∈ lw_tbl := List.mem_of_getElem? (i := 68) (by decide +kernel)
theorem ini_RX11 : Cond.initialized RX11 ∈ lw_tbl := List.mem_of_getElem? (i := 64) (by decide +kernel)
theorem ini_RX12 : Cond.initialized RX12 ∈ lw_tbl := List.mem_of_getElem? (i := 75) (by decide +kernel)
theorem ini_RJ5 : Cond.initialized RJ5 ∈ lw_tbl := List.mem_of_getElem? (i := 70) (by decide +kernel)
theorem ini_RJ6 : Cond.initialized RJ6 ∈ lw_tbl := List.mem_of_getElem? (i := 93) (by decide +kernel)
theorem ini_RJ9 : Cond.initialized RJ9 ∈ lw_tbl := List.mem_of_getElem? (i := 78) (by decide +kernel)
theorem ini_RJ0 : Cond.initialized RJ0 ∈ lw_tbl := List.mem_of_getElem? (i := 72) (by decide +kernel)
theorem ini_RJ4 : Cond.initialized RJ4 ∈ lw_tbl := List.mem_of_getElem? (i := 71) (by decide +kernel)
theorem ini_RJ1 : Cond.initialized RJ1 ∈ lw_tbl := List.mem_of_getElem? (i := 89) (by decide +kernel)
theorem ini_RJ2 : Cond.initialized RJ2 ∈ lw_tbl := List.mem_of_getElem? (i := 73) (by decide +kernel)
theorem ini_RJxa1e45 : Cond.initialized RJxa1e45 ∈ lw_tbl := List.mem_of_getElem? (i := 65) (by decide +kernel)
theorem ini_RJxc12de : Cond.initialized RJxc12de ∈ lw_tbl := List.mem_of_getElem? (i := 66) (by decide +kernel)
theorem ini_RJx4a65c : Cond.initialized RJx4a65c ∈ lw_tbl := List.mem_of_getElem? (i := 67) (by decide +kernel)
theorem ini_RJ7 : Cond.initialized RJ7 ∈ lw_tbl := List.mem_of_getElem? (i := 79) (by decide +kernel)
theorem ini_RJ15 : Cond.initialized RJ15 ∈ lw_tbl := List.mem_of_getElem? (i := 85) (by decide +kernel)
theorem ini_RJ8 : Cond.initialized RJ8 ∈ lw_tbl := List.mem_of_getElem? (i := 77) (by decide +kernel)
theorem ini_RJ3 : Cond.initialized RJ3 ∈ lw_tbl := List.mem_of_getElem? (i := 86) (by decide +kernel)
def tX10_init (pc : Nat) : Option (Instr × Nat) := (bif Nat.blt pc 19 then (bif Nat.blt pc 9 then (bif Nat.blt pc 4 then (bif Nat.blt pc 1 then (bif Nat.beq pc 0 then some (.aload_n 0, 1) else none) else (bif Nat.beq pc 1 then some (.invokespecial 3, 3) else none)) else (bif Nat.blt pc 5 then (bif Nat.beq pc 4 then some (.aload_n 0, 1) else none) else (bif Nat.blt pc 7 then (bif Nat.beq pc 5 then some (.bipush 10, 2) else none) else (bif Nat.beq pc 7 then some (.newarray .int, 2) else none)))) else (bif Nat.blt pc 14 then (bif Nat.blt pc 12 then (bif Nat.beq pc 9 then some (.putfield 9, 3) else none) else (bif Nat.blt pc 13 then (bif Nat.beq pc 12 then some (.iconst 0, 1) else none) else (bif Nat.beq pc 13 then some (.istore_n 1, 1) else none))) else (bif Nat.blt pc 15 then (bif Nat.beq pc 14 then some (.iload_n 1, 1) else none) else (bif Nat.blt pc 16 then (bif Nat.beq pc 15 then some (.iconst 5, 1) else none) else (bif Nat.beq pc 16 then some (.if_icmp .ge 22, 3) else none))))) else (bif Nat.blt pc 27 then (bif Nat.blt pc 24 then (bif Nat.blt pc 20 then (bif Nat.beq pc 19 then some (.aload_n 0, 1) else none) else (bif Nat.blt pc 23 then (bif Nat.beq pc 20 then some (.getfield 9, 3) else none) else (bif Nat.beq pc 23 then some (.iconst 2, 1) else none))) else (bif Nat.blt pc 25 then (bif Nat.beq pc 24 then some (.iload_n 1, 1) else none) else (bif Nat.blt pc 26 then (bif Nat.beq pc 25 then some (.imul, 1) else none) else (bif Nat.beq pc 26 then some (.iconst 1, 1) else none)))) else (bif Nat.blt pc 32 then (bif Nat.blt pc 28 then (bif Nat.beq pc 27 then some (.iadd, 1) else none) else (bif Nat.blt pc 31 then (bif Nat.beq pc 28 then some (.sipush 10000, 3) else none) else (bif Nat.beq pc 31 then some (.iastore, 1) else none))) else (bif Nat.blt pc 35 then (bif Nat.beq pc 32 then some (.iinc 1 1, 3) else none) else (bif Nat.blt pc 38 then (bif Nat.beq pc 35 then some (.goto (-21), 3) else none) else (bif Nat.beq pc 38 then some (.return_, 1) else none))))))
def mX10_init : jMth := (yX10_init, cX10_init, 2, (none : Option FieldType), [], 0, fun pc => bif Nat.blt pc 39 then tX10_init pc else none)
set_option maxRecDepth 100000 in
theorem MX10_init : jMeth mX10_init := jMeth_of (List.mem_of_getElem? (i := 138) rfl) ini_RX10 (by decide +kernel) (by decide +kernel)
def tX10_low (pc : Nat) : Option (Instr × Nat) := (bif Nat.blt pc 5 then (bif Nat.blt pc 1 then (bif Nat.beq pc 0 then some (.aload_n 0, 1) else none) else (bif Nat.blt pc 4 then (bif Nat.beq pc 1 then some (.getfield 9, 3) else none) else (bif Nat.beq pc 4 then some (.iconst 2, 1) else none))) else (bif Nat.blt pc 7 then (bif Nat.blt pc 6 then (bif Nat.beq pc 5 then some (.iload_n 1, 1) else none) else (bif Nat.beq pc 6 then some (.imul, 1) else none)) else (bif Nat.blt pc 8 then (bif Nat.beq pc 7 then some (.iaload, 1) else none) else (bif Nat.beq pc 8 then some (.ireturn, 1) else none))))
def mX10_low : jMth := (yX10_low, cX10_low, 2, (Option.some FieldType.int), [], 1, fun pc => bif Nat.blt pc 9 then tX10_low pc else none)
set_option maxRecDepth 100000 in
theorem MX10_low : jMeth mX10_low := jMeth_of (List.mem_of_getElem? (i := 1081) rfl) ini_RX10 (by decide +kernel) (by decide +kernel)
def tX10_high (pc : Nat) : Option (Instr × Nat) := (bif Nat.blt pc 6 then (bif Nat.blt pc 4 then (bif Nat.blt pc 1 then (bif Nat.beq pc 0 then some (.aload_n 0, 1) else none) else (bif Nat.beq pc 1 then some (.getfield 9, 3) else none)) else (bif Nat.blt pc 5 then (bif Nat.beq pc 4 then some (.iconst 2, 1) else none) else (bif Nat.beq pc 5 then some (.iload_n 1, 1) else none))) else (bif Nat.blt pc 8 then (bif Nat.blt pc 7 then (bif Nat.beq pc 6 then some (.imul, 1) else none) else (bif Nat.beq pc 7 then some (.iconst 1, 1) else none)) else (bif Nat.blt pc 9 then (bif Nat.beq pc 8 then some (.iadd, 1) else none) else (bif Nat.blt pc 10 then (bif Nat.beq pc 9 then some (.iaload, 1) else none) else (bif Nat.beq pc 10 then some (.ireturn, 1) else none)))))
def mX10_high : jMth := (yX10_high, cX10_high, 2, (Option.some FieldType.int), [], 1, fun pc => bif Nat.blt pc 11 then tX10_high pc else none)
set_option maxRecDepth 100000 in
theorem MX10_high : jMeth mX10_high := jMeth_of (List.mem_of_getElem? (i := 1077) rfl) ini_RX10 (by decide +kernel) (by decide +kernel)
def tX10_put (pc : Nat) : Option (Instr × Nat) := (bif Nat.blt pc 10 then (bif Nat.blt pc 6 then (bif Nat.blt pc 4 then (bif Nat.blt pc 1 then (bif Nat.beq pc 0 then some (.aload_n 0, 1) else none) else (bif Nat.beq pc 1 then some (.getfield 9, 3) else none)) else (bif Nat.blt pc 5 then (bif Nat.beq pc 4 then some (.iconst 2, 1) else none) else (bif Nat.beq pc 5 then some (.iload_n 1, 1) else none))) else (bif Nat.blt pc 8 then (bif Nat.blt pc 7 then (bif Nat.beq pc 6 then some (.imul, 1) else none) else (bif Nat.beq pc 7 then some (.iload_n 2, 1) else none)) else (bif Nat.blt pc 9 then (bif Nat.beq pc 8 then some (.iastore, 1) else none) else (bif Nat.beq pc 9 then some (.aload_n 0, 1) else none)))) else (bif Nat.blt pc 16 then (bif Nat.blt pc 14 then (bif Nat.blt pc 13 then (bif Nat.beq pc 10 then some (.getfield 9, 3) else none) else (bif Nat.beq pc 13 then some (.iconst 2, 1) else none)) else (bif Nat.blt pc 15 then (bif Nat.beq pc 14 then some (.iload_n 1, 1) else none) else (bif Nat.beq pc 15 then some (.imul, 1) else none))) else (bif Nat.blt pc 18 then (bif Nat.blt pc 17 then (bif Nat.beq pc 16 then some (.iconst 1, 1) else none) else (bif Nat.beq pc 17 then some (.iadd, 1) else none)) else (bif Nat.blt pc 19 then (bif Nat.beq pc 18 then some (.iload_n 3, 1) else none) else (bif Nat.blt pc 20 then (bif Nat.beq pc 19 then some (.iastore, 1) else none) else (bif Nat.beq pc 20 then some (.return_, 1) else none))))))
def mX10_put : jMth := (yX10_put, cX10_put, 4, (none : Option FieldType), [], 3, fun pc => bif Nat.blt pc 21 then tX10_put pc else none)
set_option maxRecDepth 100000 in
theorem MX10_put : jMeth mX10_put := jMeth_of (List.mem_of_getElem? (i := 605) rfl) ini_RX10 (by decide +kernel) (by decide +kernel)
def tX10_hasCommon (pc : Nat) : Option (Instr × Nat) := (bif Nat.blt pc 11 then (bif Nat.blt pc 3 then (bif Nat.blt pc 1 then (bif Nat.beq pc 0 then some (.iload_n 2, 1) else none) else (bif Nat.blt pc 2 then (bif Nat.beq pc 1 then some (.aload_n 0, 1) else none) else (bif Nat.beq pc 2 then some (.iload_n 1, 1) else none))) else (bif Nat.blt pc 9 then (bif Nat.blt pc 6 then (bif Nat.beq pc 3 then some (.invokevirtual 15, 3) else none) else (bif Nat.beq pc 6 then some (.invokestatic 19, 3) else none)) else (bif Nat.blt pc 10 then (bif Nat.beq pc 9 then some (.iload_n 3, 1) else none) else (bif Nat.beq pc 10 then some (.aload_n 0, 1) else none)))) else (bif Nat.blt pc 21 then (bif Nat.blt pc 15 then (bif Nat.blt pc 12 then (bif Nat.beq pc 11 then some (.iload_n 1, 1) else none) else (bif Nat.beq pc 12 then some (.invokevirtual 25, 3) else none)) else (bif Nat.blt pc 18 then (bif Nat.beq pc 15 then some (.invokestatic 28, 3) else none) else (bif Nat.beq pc 18 then some (.if_icmp .gt 7, 3) else none))) else (bif Nat.blt pc 25 then (bif Nat.blt pc 22 then (bif Nat.beq pc 21 then some (.iconst 1, 1) else none) else (bif Nat.beq pc 22 then some (.goto 4, 3) else none)) else (bif Nat.blt pc 26 then (bif Nat.beq pc 25 then some (.iconst 0, 1) else none) else (bif Nat.beq pc 26 then some (.ireturn, 1) else none)))))
def mX10_hasCommon : jMth := (yX10_hasCommon, cX10_hasCommon, 4, (Option.some FieldType.boolean), [], 3, fun pc => bif Nat.blt pc 27 then tX10_hasCommon pc else none)
set_option maxRecDepth 100000 in
theorem MX10_hasCommon : jMeth mX10_hasCommon := jMeth_of (List.mem_of_getElem? (i := 1153) rfl) ini_RX10 (by decide +kernel) (by decide +kernel)
def tX10_narrow (pc : Nat) : Option (Instr × Nat) := (bif Nat.blt pc 11 then (bif Nat.blt pc 3 then (bif Nat.blt pc 1 then (bif Nat.beq pc 0 then some (.aload_n 0, 1) else none) else (bif Nat.blt pc 2 then (bif Nat.beq pc 1 then some (.iload_n 1, 1) else none) else (bif Nat.beq pc 2 then some (.iload_n 2, 1) else none))) else (bif Nat.blt pc 5 then (bif Nat.blt pc 4 then (bif Nat.beq pc 3 then some (.aload_n 0, 1) else none) else (bif Nat.beq pc 4 then some (.iload_n 1, 1) else none)) else (bif Nat.blt pc 8 then (bif Nat.beq pc 5 then some (.invokevirtual 15, 3) else none) else (bif Nat.beq pc 8 then some (.invokestatic 19, 3) else none)))) else (bif Nat.blt pc 14 then (bif Nat.blt pc 12 then (bif Nat.beq pc 11 then some (.iload_n 3, 1) else none) else (bif Nat.blt pc 13 then (bif Nat.beq pc 12 then some (.aload_n 0, 1) else none) else (bif Nat.beq pc 13 then some (.iload_n 1, 1) else none))) else (bif Nat.blt pc 20 then (bif Nat.blt pc 17 then (bif Nat.beq pc 14 then some (.invokevirtual 25, 3) else none) else (bif Nat.beq pc 17 then some (.invokestatic 28, 3) else none)) else (bif Nat.blt pc 23 then (bif Nat.beq pc 20 then some (.invokevirtual 31, 3) else none) else (bif Nat.beq pc 23 then some (.return_, 1) else none)))))
def mX10_narrow : jMth := (yX10_narrow, cX10_narrow, 4, (none : Option FieldType), [], 3, fun pc => bif Nat.blt pc 24 then tX10_narrow pc else none)
set_option maxRecDepth 100000 in
theorem MX10_narrow : jMeth mX10_narrow := jMeth_of (List.mem_of_getElem? (i := 1161) rfl) ini_RX10 (by decide +kernel) (by decide +kernel)
def tX10_copyFrom (pc : Nat) : Option (Instr × Nat) := (bif Nat.blt pc 6 then (bif Nat.blt pc 4 then (bif Nat.blt pc 1 then (bif Nat.beq pc 0 then some (.aload_n 1, 1) else none) else (bif Nat.beq pc 1 then some (.getfield 9, 3) else none)) else (bif Nat.blt pc 5 then (bif Nat.beq pc 4 then some (.iconst 0, 1) else none) else (bif Nat.beq pc 5 then some (.aload_n 0, 1) else none))) else (bif Nat.blt pc 10 then (bif Nat.blt pc 9 then (bif Nat.beq pc 6 then some (.getfield 9, 3) else none) else (bif Nat.beq pc 9 then some (.iconst 0, 1) else none)) else (bif Nat.blt pc 12 then (bif Nat.beq pc 10 then some (.bipush 10, 2) else none) else (bif Nat.blt pc 15 then (bif Nat.beq pc 12 then some (.invokestatic 35, 3) else none) else (bif Nat.beq pc 15 then some (.return_, 1) else none)))))
def mX10_copyFrom : jMth := (yX10_copyFrom, cX10_copyFrom, 2, (none : Option FieldType), [], 1, fun pc => bif Nat.blt pc 16 then tX10_copyFrom pc else none)
set_option maxRecDepth 100000 in
theorem MX10_copyFrom : jMeth mX10_copyFrom := jMeth_of (List.mem_of_getElem? (i := 1096) rfl) ini_RX10 (by decide +kernel) (by decide +kernel)
def tX10_partOrThrow (pc : Nat) : Option (Instr × Nat) := (bif Nat.blt pc 17 then (bif Nat.blt pc 7 then (bif Nat.blt pc 2 then (bif Nat.blt pc 1 then (bif Nat.beq pc 0 then some (.iload_n 1, 1) else none) else (bif Nat.beq pc 1 then some (.iload_n 2, 1) else none)) else (bif Nat.blt pc 5 then (bif Nat.beq pc 2 then some (.if_icmp .lt 11, 3) else none) else (bif Nat.blt pc 6 then (bif Nat.beq pc 5 then some (.iload_n 1, 1) else none) else (bif Nat.beq pc 6 then some (.iload_n 2, 1) else none)))) else (bif Nat.blt pc 10 then (bif Nat.blt pc 9 then (bif Nat.beq pc 7 then some (.bipush 10, 2) else none) else (bif Nat.beq pc 9 then some (.iadd, 1) else none)) else (bif Nat.blt pc 13 then (bif Nat.beq pc 10 then some (.if_icmp .lt 13, 3) else none) else (bif Nat.blt pc 16 then (bif Nat.beq pc 13 then some (.new 41, 3) else none) else (bif Nat.beq pc 16 then some (.dup, 1) else none))))) else (bif Nat.blt pc 27 then (bif Nat.blt pc 22 then (bif Nat.blt pc 19 then (bif Nat.beq pc 17 then some (.ldc 43, 2) else none) else (bif Nat.beq pc 19 then some (.invokespecial 45, 3) else none)) else (bif Nat.blt pc 23 then (bif Nat.beq pc 22 then some (.athrow, 1) else none) else (bif Nat.blt pc 24 then (bif Nat.beq pc 23 then some (.aload_n 0, 1) else none) else (bif Nat.beq pc 24 then some (.getfield 9, 3) else none)))) else (bif Nat.blt pc 29 then (bif Nat.blt pc 28 then (bif Nat.beq pc 27 then some (.iload_n 1, 1) else none) else (bif Nat.beq pc 28 then some (.iload_n 2, 1) else none)) else (bif Nat.blt pc 30 then (bif Nat.beq pc 29 then some (.isub, 1) else none) else (bif Nat.blt pc 31 then (bif Nat.beq pc 30 then some (.iaload, 1) else none) else (bif Nat.beq pc 31 then some (.ireturn, 1) else none))))))
def mX10_partOrThrow : jMth := (yX10_partOrThrow, cX10_partOrThrow, 3, (Option.some FieldType.int), [], 2, fun pc => bif Nat.blt pc 32 then tX10_partOrThrow pc else none)
set_option maxRecDepth 100000 in
theorem MX10_partOrThrow : jMeth mX10_partOrThrow := jMeth_of (List.mem_of_getElem? (i := 1139) rfl) ini_RX10 (by decide +kernel) (by decide +kernel)
end
