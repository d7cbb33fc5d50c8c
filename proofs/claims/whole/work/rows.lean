section
-- ===== PART A: goes FIRST, ahead of the names: the tables' words, and 'selects' of the private methods out of them =====
/-- a private method of a class that the tables say can be made, by its rows of tables_1 -/
def lw_okq (q : MethodName × Nat) : Prop := (q.1.cls ≠ "java/lang/invoke/MethodHandle" ∧ q.1.cls ≠ "java/lang/invoke/VarHandle") ∧ Cond.instantiable q.1.cls q.2 ∈ tables_1 ∧ Cond.privateMethod q.1 ∈ tables_1 ∧ Cond.instanceMethod q.1 ∈ tables_1
theorem lw_p0 : lw_okq (⟨"CreasedAgain", "isNoPart", "(II)Z"⟩, 9) := ⟨⟨by decide +kernel, by decide +kernel⟩, List.mem_of_getElem? (i := 19) (by decide +kernel), List.mem_of_getElem? (i := 252) (by decide +kernel), List.mem_of_getElem? (i := 253) (by decide +kernel)⟩
theorem lw_p1 : lw_okq (⟨"CreasedAgain$Shirt", "itemOf", "(II)I"⟩, 8) := ⟨⟨by decide +kernel, by decide +kernel⟩, List.mem_of_getElem? (i := 27) (by decide +kernel), List.mem_of_getElem? (i := 267) (by decide +kernel), List.mem_of_getElem? (i := 268) (by decide +kernel)⟩
theorem lw_p2 : lw_okq (⟨"CreasedAgain$Shirt", "putOf", "(III)V"⟩, 8) := ⟨⟨by decide +kernel, by decide +kernel⟩, List.mem_of_getElem? (i := 27) (by decide +kernel), List.mem_of_getElem? (i := 275) (by decide +kernel), List.mem_of_getElem? (i := 276) (by decide +kernel)⟩
theorem lw_p3 : lw_okq (⟨"CreasedAgain$Ironing", "nameAll", "(II)V"⟩, 10) := ⟨⟨by decide +kernel, by decide +kernel⟩, List.mem_of_getElem? (i := 140) (by decide +kernel), List.mem_of_getElem? (i := 302) (by decide +kernel), List.mem_of_getElem? (i := 303) (by decide +kernel)⟩
theorem lw_p4 : lw_okq (⟨"CreasedAgain$Ironing", "ironOne", "(I)V"⟩, 10) := ⟨⟨by decide +kernel, by decide +kernel⟩, List.mem_of_getElem? (i := 140) (by decide +kernel), List.mem_of_getElem? (i := 363) (by decide +kernel), List.mem_of_getElem? (i := 364) (by decide +kernel)⟩
theorem lw_p5 : lw_okq (⟨"CreasedAgain$Reader", "advance", "()V"⟩, 8) := ⟨⟨by decide +kernel, by decide +kernel⟩, List.mem_of_getElem? (i := 108) (by decide +kernel), List.mem_of_getElem? (i := 392) (by decide +kernel), List.mem_of_getElem? (i := 393) (by decide +kernel)⟩
theorem lw_p6 : lw_okq (⟨"CreasedAgain$Reader", "advanceOverWord", "()V"⟩, 8) := ⟨⟨by decide +kernel, by decide +kernel⟩, List.mem_of_getElem? (i := 108) (by decide +kernel), List.mem_of_getElem? (i := 399) (by decide +kernel), List.mem_of_getElem? (i := 400) (by decide +kernel)⟩
theorem lw_p7 : lw_okq (⟨"CreasedAgain$Reader", "name", "()I"⟩, 8) := ⟨⟨by decide +kernel, by decide +kernel⟩, List.mem_of_getElem? (i := 108) (by decide +kernel), List.mem_of_getElem? (i := 403) (by decide +kernel), List.mem_of_getElem? (i := 404) (by decide +kernel)⟩
theorem lw_p8 : lw_okq (⟨"CreasedAgain$Reader", "isWord", "(Ljava/lang/String;)Z"⟩, 8) := ⟨⟨by decide +kernel, by decide +kernel⟩, List.mem_of_getElem? (i := 108) (by decide +kernel), List.mem_of_getElem? (i := 408) (by decide +kernel), List.mem_of_getElem? (i := 409) (by decide +kernel)⟩
theorem lw_p9 : lw_okq (⟨"CreasedAgain$Reader", "key", "()I"⟩, 8) := ⟨⟨by decide +kernel, by decide +kernel⟩, List.mem_of_getElem? (i := 108) (by decide +kernel), List.mem_of_getElem? (i := 465) (by decide +kernel), List.mem_of_getElem? (i := 466) (by decide +kernel)⟩
theorem lw_p10 : lw_okq (⟨"CreasedAgain$Reader", "advanceOverNumber", "()V"⟩, 8) := ⟨⟨by decide +kernel, by decide +kernel⟩, List.mem_of_getElem? (i := 108) (by decide +kernel), List.mem_of_getElem? (i := 478) (by decide +kernel), List.mem_of_getElem? (i := 479) (by decide +kernel)⟩
theorem lw_p11 : lw_okq (⟨"CreasedAgain$Reader", "either", "(I)Z"⟩, 8) := ⟨⟨by decide +kernel, by decide +kernel⟩, List.mem_of_getElem? (i := 108) (by decide +kernel), List.mem_of_getElem? (i := 485) (by decide +kernel), List.mem_of_getElem? (i := 486) (by decide +kernel)⟩
theorem lw_p12 : lw_okq (⟨"CreasedAgain$Reader", "both", "(I)Z"⟩, 8) := ⟨⟨by decide +kernel, by decide +kernel⟩, List.mem_of_getElem? (i := 108) (by decide +kernel), List.mem_of_getElem? (i := 489) (by decide +kernel), List.mem_of_getElem? (i := 490) (by decide +kernel)⟩
theorem lw_p13 : lw_okq (⟨"CreasedAgain$Reader", "negation", "(I)Z"⟩, 8) := ⟨⟨by decide +kernel, by decide +kernel⟩, List.mem_of_getElem? (i := 108) (by decide +kernel), List.mem_of_getElem? (i := 493) (by decide +kernel), List.mem_of_getElem? (i := 494) (by decide +kernel)⟩
theorem lw_p14 : lw_okq (⟨"CreasedAgain$Reader", "comparison", "(I)Z"⟩, 8) := ⟨⟨by decide +kernel, by decide +kernel⟩, List.mem_of_getElem? (i := 108) (by decide +kernel), List.mem_of_getElem? (i := 497) (by decide +kernel), List.mem_of_getElem? (i := 498) (by decide +kernel)⟩
theorem lw_p15 : lw_okq (⟨"CreasedAgain$Reader", "sum", "(I)Z"⟩, 8) := ⟨⟨by decide +kernel, by decide +kernel⟩, List.mem_of_getElem? (i := 108) (by decide +kernel), List.mem_of_getElem? (i := 501) (by decide +kernel), List.mem_of_getElem? (i := 502) (by decide +kernel)⟩
def lw_privs_1 : List (MethodName × Nat) := [(⟨"CreasedAgain", "isNoPart", "(II)Z"⟩, 9), (⟨"CreasedAgain$Shirt", "itemOf", "(II)I"⟩, 8), (⟨"CreasedAgain$Shirt", "putOf", "(III)V"⟩, 8), (⟨"CreasedAgain$Ironing", "nameAll", "(II)V"⟩, 10), (⟨"CreasedAgain$Ironing", "ironOne", "(I)V"⟩, 10), (⟨"CreasedAgain$Reader", "advance", "()V"⟩, 8), (⟨"CreasedAgain$Reader", "advanceOverWord", "()V"⟩, 8), (⟨"CreasedAgain$Reader", "name", "()I"⟩, 8), (⟨"CreasedAgain$Reader", "isWord", "(Ljava/lang/String;)Z"⟩, 8), (⟨"CreasedAgain$Reader", "key", "()I"⟩, 8), (⟨"CreasedAgain$Reader", "advanceOverNumber", "()V"⟩, 8), (⟨"CreasedAgain$Reader", "either", "(I)Z"⟩, 8), (⟨"CreasedAgain$Reader", "both", "(I)Z"⟩, 8), (⟨"CreasedAgain$Reader", "negation", "(I)Z"⟩, 8), (⟨"CreasedAgain$Reader", "comparison", "(I)Z"⟩, 8), (⟨"CreasedAgain$Reader", "sum", "(I)Z"⟩, 8)]
theorem lw_r1 : ∀ q ∈ lw_privs_1, lw_okq q := List.forall_mem_cons.mpr ⟨lw_p0, List.forall_mem_cons.mpr ⟨lw_p1, List.forall_mem_cons.mpr ⟨lw_p2, List.forall_mem_cons.mpr ⟨lw_p3, List.forall_mem_cons.mpr ⟨lw_p4, List.forall_mem_cons.mpr ⟨lw_p5, List.forall_mem_cons.mpr ⟨lw_p6, List.forall_mem_cons.mpr ⟨lw_p7, List.forall_mem_cons.mpr ⟨lw_p8, List.forall_mem_cons.mpr ⟨lw_p9, List.forall_mem_cons.mpr ⟨lw_p10, List.forall_mem_cons.mpr ⟨lw_p11, List.forall_mem_cons.mpr ⟨lw_p12, List.forall_mem_cons.mpr ⟨lw_p13, List.forall_mem_cons.mpr ⟨lw_p14, List.forall_mem_cons.mpr ⟨lw_p15, fun _ h => absurd h List.not_mem_nil⟩⟩⟩⟩⟩⟩⟩⟩⟩⟩⟩⟩⟩⟩⟩⟩
theorem lw_p16 : lw_okq (⟨"CreasedAgain$Reader", "term", "(I)Z"⟩, 8) := ⟨⟨by decide +kernel, by decide +kernel⟩, List.mem_of_getElem? (i := 108) (by decide +kernel), List.mem_of_getElem? (i := 505) (by decide +kernel), List.mem_of_getElem? (i := 506) (by decide +kernel)⟩
theorem lw_p17 : lw_okq (⟨"CreasedAgain$Reader", "one", "(I)Z"⟩, 8) := ⟨⟨by decide +kernel, by decide +kernel⟩, List.mem_of_getElem? (i := 108) (by decide +kernel), List.mem_of_getElem? (i := 509) (by decide +kernel), List.mem_of_getElem? (i := 510) (by decide +kernel)⟩
theorem lw_p18 : lw_okq (⟨"CreasedAgain$Reader", "emit", "(I)V"⟩, 8) := ⟨⟨by decide +kernel, by decide +kernel⟩, List.mem_of_getElem? (i := 108) (by decide +kernel), List.mem_of_getElem? (i := 513) (by decide +kernel), List.mem_of_getElem? (i := 514) (by decide +kernel)⟩
theorem lw_p19 : lw_okq (⟨"CreasedAgain", "isOfOrder", "(I)Z"⟩, 9) := ⟨⟨by decide +kernel, by decide +kernel⟩, List.mem_of_getElem? (i := 19) (by decide +kernel), List.mem_of_getElem? (i := 526) (by decide +kernel), List.mem_of_getElem? (i := 527) (by decide +kernel)⟩
theorem lw_p20 : lw_okq (⟨"CreasedAgain$Ironing", "doneAt", "(I)I"⟩, 10) := ⟨⟨by decide +kernel, by decide +kernel⟩, List.mem_of_getElem? (i := 140) (by decide +kernel), List.mem_of_getElem? (i := 543) (by decide +kernel), List.mem_of_getElem? (i := 544) (by decide +kernel)⟩
theorem lw_p21 : lw_okq (⟨"CreasedAgain", "takesOrder", "(I)Z"⟩, 9) := ⟨⟨by decide +kernel, by decide +kernel⟩, List.mem_of_getElem? (i := 19) (by decide +kernel), List.mem_of_getElem? (i := 559) (by decide +kernel), List.mem_of_getElem? (i := 560) (by decide +kernel)⟩
theorem lw_p22 : lw_okq (⟨"CreasedAgain$Search", "begin", "(I)V"⟩, 4) := ⟨⟨by decide +kernel, by decide +kernel⟩, List.mem_of_getElem? (i := 179) (by decide +kernel), List.mem_of_getElem? (i := 611) (by decide +kernel), List.mem_of_getElem? (i := 612) (by decide +kernel)⟩
theorem lw_p23 : lw_okq (⟨"CreasedAgain$Search", "offer", "(II)V"⟩, 4) := ⟨⟨by decide +kernel, by decide +kernel⟩, List.mem_of_getElem? (i := 179) (by decide +kernel), List.mem_of_getElem? (i := 616) (by decide +kernel), List.mem_of_getElem? (i := 617) (by decide +kernel)⟩
theorem lw_p24 : lw_okq (⟨"CreasedAgain", "otherwise", "(LCreasedAgain$Shirt;I)I"⟩, 9) := ⟨⟨by decide +kernel, by decide +kernel⟩, List.mem_of_getElem? (i := 19) (by decide +kernel), List.mem_of_getElem? (i := 670) (by decide +kernel), List.mem_of_getElem? (i := 671) (by decide +kernel)⟩
theorem lw_p25 : lw_okq (⟨"CreasedAgain", "readBack", "(II)I"⟩, 9) := ⟨⟨by decide +kernel, by decide +kernel⟩, List.mem_of_getElem? (i := 19) (by decide +kernel), List.mem_of_getElem? (i := 674) (by decide +kernel), List.mem_of_getElem? (i := 675) (by decide +kernel)⟩
theorem lw_p26 : lw_okq (⟨"CreasedAgainModel", "spell", "(IIIIIIIII)V"⟩, 46) := ⟨⟨by decide +kernel, by decide +kernel⟩, List.mem_of_getElem? (i := 762) (by decide +kernel), List.mem_of_getElem? (i := 768) (by decide +kernel), List.mem_of_getElem? (i := 769) (by decide +kernel)⟩
theorem lw_p27 : lw_okq (⟨"CreasedAgainModel", "isPart", "(I)Z"⟩, 46) := ⟨⟨by decide +kernel, by decide +kernel⟩, List.mem_of_getElem? (i := 762) (by decide +kernel), List.mem_of_getElem? (i := 919) (by decide +kernel), List.mem_of_getElem? (i := 920) (by decide +kernel)⟩
theorem lw_p28 : lw_okq (⟨"CreasedAgainModel", "showsOf", "(I)I"⟩, 46) := ⟨⟨by decide +kernel, by decide +kernel⟩, List.mem_of_getElem? (i := 762) (by decide +kernel), List.mem_of_getElem? (i := 931) (by decide +kernel), List.mem_of_getElem? (i := 932) (by decide +kernel)⟩
theorem lw_p29 : lw_okq (⟨"CreasedAgainModel", "begins", "()V"⟩, 46) := ⟨⟨by decide +kernel, by decide +kernel⟩, List.mem_of_getElem? (i := 762) (by decide +kernel), List.mem_of_getElem? (i := 935) (by decide +kernel), List.mem_of_getElem? (i := 936) (by decide +kernel)⟩
theorem lw_p30 : lw_okq (⟨"CreasedAgainModel", "keepsOf", "(I)I"⟩, 46) := ⟨⟨by decide +kernel, by decide +kernel⟩, List.mem_of_getElem? (i := 762) (by decide +kernel), List.mem_of_getElem? (i := 939) (by decide +kernel), List.mem_of_getElem? (i := 940) (by decide +kernel)⟩
theorem lw_p31 : lw_okq (⟨"CreasedAgainModel", "asks", "(II)I"⟩, 46) := ⟨⟨by decide +kernel, by decide +kernel⟩, List.mem_of_getElem? (i := 762) (by decide +kernel), List.mem_of_getElem? (i := 943) (by decide +kernel), List.mem_of_getElem? (i := 944) (by decide +kernel)⟩
def lw_privs_2 : List (MethodName × Nat) := [(⟨"CreasedAgain$Reader", "term", "(I)Z"⟩, 8), (⟨"CreasedAgain$Reader", "one", "(I)Z"⟩, 8), (⟨"CreasedAgain$Reader", "emit", "(I)V"⟩, 8), (⟨"CreasedAgain", "isOfOrder", "(I)Z"⟩, 9), (⟨"CreasedAgain$Ironing", "doneAt", "(I)I"⟩, 10), (⟨"CreasedAgain", "takesOrder", "(I)Z"⟩, 9), (⟨"CreasedAgain$Search", "begin", "(I)V"⟩, 4), (⟨"CreasedAgain$Search", "offer", "(II)V"⟩, 4), (⟨"CreasedAgain", "otherwise", "(LCreasedAgain$Shirt;I)I"⟩, 9), (⟨"CreasedAgain", "readBack", "(II)I"⟩, 9), (⟨"CreasedAgainModel", "spell", "(IIIIIIIII)V"⟩, 46), (⟨"CreasedAgainModel", "isPart", "(I)Z"⟩, 46), (⟨"CreasedAgainModel", "showsOf", "(I)I"⟩, 46), (⟨"CreasedAgainModel", "begins", "()V"⟩, 46), (⟨"CreasedAgainModel", "keepsOf", "(I)I"⟩, 46), (⟨"CreasedAgainModel", "asks", "(II)I"⟩, 46)]
theorem lw_r2 : ∀ q ∈ lw_privs_2, lw_okq q := List.forall_mem_cons.mpr ⟨lw_p16, List.forall_mem_cons.mpr ⟨lw_p17, List.forall_mem_cons.mpr ⟨lw_p18, List.forall_mem_cons.mpr ⟨lw_p19, List.forall_mem_cons.mpr ⟨lw_p20, List.forall_mem_cons.mpr ⟨lw_p21, List.forall_mem_cons.mpr ⟨lw_p22, List.forall_mem_cons.mpr ⟨lw_p23, List.forall_mem_cons.mpr ⟨lw_p24, List.forall_mem_cons.mpr ⟨lw_p25, List.forall_mem_cons.mpr ⟨lw_p26, List.forall_mem_cons.mpr ⟨lw_p27, List.forall_mem_cons.mpr ⟨lw_p28, List.forall_mem_cons.mpr ⟨lw_p29, List.forall_mem_cons.mpr ⟨lw_p30, List.forall_mem_cons.mpr ⟨lw_p31, fun _ h => absurd h List.not_mem_nil⟩⟩⟩⟩⟩⟩⟩⟩⟩⟩⟩⟩⟩⟩⟩⟩
theorem lw_p32 : lw_okq (⟨"CreasedAgainModel", "read", "(II)I"⟩, 46) := ⟨⟨by decide +kernel, by decide +kernel⟩, List.mem_of_getElem? (i := 762) (by decide +kernel), List.mem_of_getElem? (i := 950) (by decide +kernel), List.mem_of_getElem? (i := 951) (by decide +kernel)⟩
theorem lw_p33 : lw_okq (⟨"CreasedAgainModel", "next", "()V"⟩, 46) := ⟨⟨by decide +kernel, by decide +kernel⟩, List.mem_of_getElem? (i := 762) (by decide +kernel), List.mem_of_getElem? (i := 954) (by decide +kernel), List.mem_of_getElem? (i := 955) (by decide +kernel)⟩
theorem lw_p34 : lw_okq (⟨"CreasedAgainModel", "byteAt", "(I)I"⟩, 46) := ⟨⟨by decide +kernel, by decide +kernel⟩, List.mem_of_getElem? (i := 762) (by decide +kernel), List.mem_of_getElem? (i := 958) (by decide +kernel), List.mem_of_getElem? (i := 959) (by decide +kernel)⟩
theorem lw_p35 : lw_okq (⟨"CreasedAgainModel", "isWord", "(IIIIIIII)Z"⟩, 46) := ⟨⟨by decide +kernel, by decide +kernel⟩, List.mem_of_getElem? (i := 762) (by decide +kernel), List.mem_of_getElem? (i := 967) (by decide +kernel), List.mem_of_getElem? (i := 968) (by decide +kernel)⟩
theorem lw_p36 : lw_okq (⟨"CreasedAgainModel", "isLetter", "(II)Z"⟩, 46) := ⟨⟨by decide +kernel, by decide +kernel⟩, List.mem_of_getElem? (i := 762) (by decide +kernel), List.mem_of_getElem? (i := 971) (by decide +kernel), List.mem_of_getElem? (i := 972) (by decide +kernel)⟩
theorem lw_p37 : lw_okq (⟨"CreasedAgainModel", "part", "(Z)I"⟩, 46) := ⟨⟨by decide +kernel, by decide +kernel⟩, List.mem_of_getElem? (i := 762) (by decide +kernel), List.mem_of_getElem? (i := 975) (by decide +kernel), List.mem_of_getElem? (i := 976) (by decide +kernel)⟩
theorem lw_p38 : lw_okq (⟨"CreasedAgainModel", "fail", "()V"⟩, 46) := ⟨⟨by decide +kernel, by decide +kernel⟩, List.mem_of_getElem? (i := 762) (by decide +kernel), List.mem_of_getElem? (i := 979) (by decide +kernel), List.mem_of_getElem? (i := 980) (by decide +kernel)⟩
theorem lw_p39 : lw_okq (⟨"CreasedAgainModel", "either", "()I"⟩, 46) := ⟨⟨by decide +kernel, by decide +kernel⟩, List.mem_of_getElem? (i := 762) (by decide +kernel), List.mem_of_getElem? (i := 983) (by decide +kernel), List.mem_of_getElem? (i := 984) (by decide +kernel)⟩
theorem lw_p40 : lw_okq (⟨"CreasedAgainModel", "both", "()I"⟩, 46) := ⟨⟨by decide +kernel, by decide +kernel⟩, List.mem_of_getElem? (i := 762) (by decide +kernel), List.mem_of_getElem? (i := 987) (by decide +kernel), List.mem_of_getElem? (i := 988) (by decide +kernel)⟩
theorem lw_p41 : lw_okq (⟨"CreasedAgainModel", "not", "()I"⟩, 46) := ⟨⟨by decide +kernel, by decide +kernel⟩, List.mem_of_getElem? (i := 762) (by decide +kernel), List.mem_of_getElem? (i := 991) (by decide +kernel), List.mem_of_getElem? (i := 992) (by decide +kernel)⟩
theorem lw_p42 : lw_okq (⟨"CreasedAgainModel", "opens", "()Z"⟩, 46) := ⟨⟨by decide +kernel, by decide +kernel⟩, List.mem_of_getElem? (i := 762) (by decide +kernel), List.mem_of_getElem? (i := 995) (by decide +kernel), List.mem_of_getElem? (i := 996) (by decide +kernel)⟩
theorem lw_p43 : lw_okq (⟨"CreasedAgainModel", "added", "()I"⟩, 46) := ⟨⟨by decide +kernel, by decide +kernel⟩, List.mem_of_getElem? (i := 762) (by decide +kernel), List.mem_of_getElem? (i := 999) (by decide +kernel), List.mem_of_getElem? (i := 1000) (by decide +kernel)⟩
theorem lw_p44 : lw_okq (⟨"CreasedAgainModel", "term", "()I"⟩, 46) := ⟨⟨by decide +kernel, by decide +kernel⟩, List.mem_of_getElem? (i := 762) (by decide +kernel), List.mem_of_getElem? (i := 1003) (by decide +kernel), List.mem_of_getElem? (i := 1004) (by decide +kernel)⟩
theorem lw_p45 : lw_okq (⟨"CreasedAgainModel", "atom", "()I"⟩, 46) := ⟨⟨by decide +kernel, by decide +kernel⟩, List.mem_of_getElem? (i := 762) (by decide +kernel), List.mem_of_getElem? (i := 1007) (by decide +kernel), List.mem_of_getElem? (i := 1008) (by decide +kernel)⟩
theorem lw_p46 : lw_okq (⟨"CreasedAgainModel", "isSign", "(I)Z"⟩, 46) := ⟨⟨by decide +kernel, by decide +kernel⟩, List.mem_of_getElem? (i := 762) (by decide +kernel), List.mem_of_getElem? (i := 1011) (by decide +kernel), List.mem_of_getElem? (i := 1012) (by decide +kernel)⟩
theorem lw_p47 : lw_okq (⟨"CreasedAgainModel", "name", "()I"⟩, 46) := ⟨⟨by decide +kernel, by decide +kernel⟩, List.mem_of_getElem? (i := 762) (by decide +kernel), List.mem_of_getElem? (i := 1015) (by decide +kernel), List.mem_of_getElem? (i := 1016) (by decide +kernel)⟩
def lw_privs_3 : List (MethodName × Nat) := [(⟨"CreasedAgainModel", "read", "(II)I"⟩, 46), (⟨"CreasedAgainModel", "next", "()V"⟩, 46), (⟨"CreasedAgainModel", "byteAt", "(I)I"⟩, 46), (⟨"CreasedAgainModel", "isWord", "(IIIIIIII)Z"⟩, 46), (⟨"CreasedAgainModel", "isLetter", "(II)Z"⟩, 46), (⟨"CreasedAgainModel", "part", "(Z)I"⟩, 46), (⟨"CreasedAgainModel", "fail", "()V"⟩, 46), (⟨"CreasedAgainModel", "either", "()I"⟩, 46), (⟨"CreasedAgainModel", "both", "()I"⟩, 46), (⟨"CreasedAgainModel", "not", "()I"⟩, 46), (⟨"CreasedAgainModel", "opens", "()Z"⟩, 46), (⟨"CreasedAgainModel", "added", "()I"⟩, 46), (⟨"CreasedAgainModel", "term", "()I"⟩, 46), (⟨"CreasedAgainModel", "atom", "()I"⟩, 46), (⟨"CreasedAgainModel", "isSign", "(I)Z"⟩, 46), (⟨"CreasedAgainModel", "name", "()I"⟩, 46)]
theorem lw_r3 : ∀ q ∈ lw_privs_3, lw_okq q := List.forall_mem_cons.mpr ⟨lw_p32, List.forall_mem_cons.mpr ⟨lw_p33, List.forall_mem_cons.mpr ⟨lw_p34, List.forall_mem_cons.mpr ⟨lw_p35, List.forall_mem_cons.mpr ⟨lw_p36, List.forall_mem_cons.mpr ⟨lw_p37, List.forall_mem_cons.mpr ⟨lw_p38, List.forall_mem_cons.mpr ⟨lw_p39, List.forall_mem_cons.mpr ⟨lw_p40, List.forall_mem_cons.mpr ⟨lw_p41, List.forall_mem_cons.mpr ⟨lw_p42, List.forall_mem_cons.mpr ⟨lw_p43, List.forall_mem_cons.mpr ⟨lw_p44, List.forall_mem_cons.mpr ⟨lw_p45, List.forall_mem_cons.mpr ⟨lw_p46, List.forall_mem_cons.mpr ⟨lw_p47, fun _ h => absurd h List.not_mem_nil⟩⟩⟩⟩⟩⟩⟩⟩⟩⟩⟩⟩⟩⟩⟩⟩
theorem lw_p48 : lw_okq (⟨"CreasedAgainModel", "takesOf", "(I)I"⟩, 46) := ⟨⟨by decide +kernel, by decide +kernel⟩, List.mem_of_getElem? (i := 762) (by decide +kernel), List.mem_of_getElem? (i := 1021) (by decide +kernel), List.mem_of_getElem? (i := 1022) (by decide +kernel)⟩
theorem lw_p49 : lw_okq (⟨"CreasedAgainModel", "crumplesOf", "(I)I"⟩, 46) := ⟨⟨by decide +kernel, by decide +kernel⟩, List.mem_of_getElem? (i := 762) (by decide +kernel), List.mem_of_getElem? (i := 1025) (by decide +kernel), List.mem_of_getElem? (i := 1026) (by decide +kernel)⟩
theorem lw_p50 : lw_okq (⟨"CreasedAgainModel", "lays", "(III)V"⟩, 46) := ⟨⟨by decide +kernel, by decide +kernel⟩, List.mem_of_getElem? (i := 762) (by decide +kernel), List.mem_of_getElem? (i := 1029) (by decide +kernel), List.mem_of_getElem? (i := 1030) (by decide +kernel)⟩
theorem lw_p51 : lw_okq (⟨"CreasedAgainModel", "irons", "(I)V"⟩, 46) := ⟨⟨by decide +kernel, by decide +kernel⟩, List.mem_of_getElem? (i := 762) (by decide +kernel), List.mem_of_getElem? (i := 1056) (by decide +kernel), List.mem_of_getElem? (i := 1057) (by decide +kernel)⟩
theorem lw_p52 : lw_okq (⟨"CreasedAgainModel", "isTold", "(I)Z"⟩, 46) := ⟨⟨by decide +kernel, by decide +kernel⟩, List.mem_of_getElem? (i := 762) (by decide +kernel), List.mem_of_getElem? (i := 1064) (by decide +kernel), List.mem_of_getElem? (i := 1065) (by decide +kernel)⟩
theorem lw_p53 : lw_okq (⟨"CreasedAgainModel", "plainBut", "(I)I"⟩, 46) := ⟨⟨by decide +kernel, by decide +kernel⟩, List.mem_of_getElem? (i := 762) (by decide +kernel), List.mem_of_getElem? (i := 1069) (by decide +kernel), List.mem_of_getElem? (i := 1070) (by decide +kernel)⟩
theorem lw_p54 : lw_okq (⟨"CreasedAgainModel", "creased", "()I"⟩, 46) := ⟨⟨by decide +kernel, by decide +kernel⟩, List.mem_of_getElem? (i := 762) (by decide +kernel), List.mem_of_getElem? (i := 1073) (by decide +kernel), List.mem_of_getElem? (i := 1074) (by decide +kernel)⟩
theorem lw_p55 : lw_okq (⟨"CreasedAgainModel", "tellsOf", "(I)I"⟩, 46) := ⟨⟨by decide +kernel, by decide +kernel⟩, List.mem_of_getElem? (i := 762) (by decide +kernel), List.mem_of_getElem? (i := 1077) (by decide +kernel), List.mem_of_getElem? (i := 1078) (by decide +kernel)⟩
theorem lw_p56 : lw_okq (⟨"CreasedAgainModel", "isOrder", "(I)Z"⟩, 46) := ⟨⟨by decide +kernel, by decide +kernel⟩, List.mem_of_getElem? (i := 762) (by decide +kernel), List.mem_of_getElem? (i := 1089) (by decide +kernel), List.mem_of_getElem? (i := 1090) (by decide +kernel)⟩
theorem lw_p57 : lw_okq (⟨"CreasedAgainModel", "seeks", "(III)V"⟩, 46) := ⟨⟨by decide +kernel, by decide +kernel⟩, List.mem_of_getElem? (i := 762) (by decide +kernel), List.mem_of_getElem? (i := 1097) (by decide +kernel), List.mem_of_getElem? (i := 1098) (by decide +kernel)⟩
theorem lw_p58 : lw_okq (⟨"CreasedAgainModel", "worstFirst", "()I"⟩, 46) := ⟨⟨by decide +kernel, by decide +kernel⟩, List.mem_of_getElem? (i := 762) (by decide +kernel), List.mem_of_getElem? (i := 1105) (by decide +kernel), List.mem_of_getElem? (i := 1106) (by decide +kernel)⟩
theorem lw_p59 : lw_okq (⟨"CreasedAgainModel", "changed", "(II)I"⟩, 46) := ⟨⟨by decide +kernel, by decide +kernel⟩, List.mem_of_getElem? (i := 762) (by decide +kernel), List.mem_of_getElem? (i := 1113) (by decide +kernel), List.mem_of_getElem? (i := 1114) (by decide +kernel)⟩
theorem lw_p60 : lw_okq (⟨"CreasedAgainModel", "unlike", "(I)I"⟩, 46) := ⟨⟨by decide +kernel, by decide +kernel⟩, List.mem_of_getElem? (i := 762) (by decide +kernel), List.mem_of_getElem? (i := 1143) (by decide +kernel), List.mem_of_getElem? (i := 1144) (by decide +kernel)⟩
theorem lw_p61 : lw_okq (⟨"CreasedAgainModel", "draws", "(I)V"⟩, 46) := ⟨⟨by decide +kernel, by decide +kernel⟩, List.mem_of_getElem? (i := 762) (by decide +kernel), List.mem_of_getElem? (i := 1160) (by decide +kernel), List.mem_of_getElem? (i := 1161) (by decide +kernel)⟩
theorem lw_p62 : lw_okq (⟨"CreasedAgainModel", "laysBack", "()V"⟩, 46) := ⟨⟨by decide +kernel, by decide +kernel⟩, List.mem_of_getElem? (i := 762) (by decide +kernel), List.mem_of_getElem? (i := 1165) (by decide +kernel), List.mem_of_getElem? (i := 1166) (by decide +kernel)⟩
def lw_privs_4 : List (MethodName × Nat) := [(⟨"CreasedAgainModel", "takesOf", "(I)I"⟩, 46), (⟨"CreasedAgainModel", "crumplesOf", "(I)I"⟩, 46), (⟨"CreasedAgainModel", "lays", "(III)V"⟩, 46), (⟨"CreasedAgainModel", "irons", "(I)V"⟩, 46), (⟨"CreasedAgainModel", "isTold", "(I)Z"⟩, 46), (⟨"CreasedAgainModel", "plainBut", "(I)I"⟩, 46), (⟨"CreasedAgainModel", "creased", "()I"⟩, 46), (⟨"CreasedAgainModel", "tellsOf", "(I)I"⟩, 46), (⟨"CreasedAgainModel", "isOrder", "(I)Z"⟩, 46), (⟨"CreasedAgainModel", "seeks", "(III)V"⟩, 46), (⟨"CreasedAgainModel", "worstFirst", "()I"⟩, 46), (⟨"CreasedAgainModel", "changed", "(II)I"⟩, 46), (⟨"CreasedAgainModel", "unlike", "(I)I"⟩, 46), (⟨"CreasedAgainModel", "draws", "(I)V"⟩, 46), (⟨"CreasedAgainModel", "laysBack", "()V"⟩, 46)]
theorem lw_r4 : ∀ q ∈ lw_privs_4, lw_okq q := List.forall_mem_cons.mpr ⟨lw_p48, List.forall_mem_cons.mpr ⟨lw_p49, List.forall_mem_cons.mpr ⟨lw_p50, List.forall_mem_cons.mpr ⟨lw_p51, List.forall_mem_cons.mpr ⟨lw_p52, List.forall_mem_cons.mpr ⟨lw_p53, List.forall_mem_cons.mpr ⟨lw_p54, List.forall_mem_cons.mpr ⟨lw_p55, List.forall_mem_cons.mpr ⟨lw_p56, List.forall_mem_cons.mpr ⟨lw_p57, List.forall_mem_cons.mpr ⟨lw_p58, List.forall_mem_cons.mpr ⟨lw_p59, List.forall_mem_cons.mpr ⟨lw_p60, List.forall_mem_cons.mpr ⟨lw_p61, List.forall_mem_cons.mpr ⟨lw_p62, fun _ h => absurd h List.not_mem_nil⟩⟩⟩⟩⟩⟩⟩⟩⟩⟩⟩⟩⟩⟩⟩
def lw_privs : List (MethodName × Nat) := lw_privs_1 ++ (lw_privs_2 ++ (lw_privs_3 ++ (lw_privs_4)))
def lw_tbl : List Cond := k2_sels lw_privs ++ tables_1
theorem lw_privs_ok : ∀ q ∈ lw_privs, lw_okq q := by
  show ∀ q ∈ lw_privs_1 ++ (lw_privs_2 ++ (lw_privs_3 ++ (lw_privs_4))), lw_okq q
  exact List.forall_mem_append.mpr ⟨lw_r1, List.forall_mem_append.mpr ⟨lw_r2, List.forall_mem_append.mpr ⟨lw_r3, lw_r4⟩⟩⟩
-- ===== end of PART A; then your names; then what follows =====
end
section
def RX0 : String := "CreasedAgain$Ironing"
def TX0 : u_T := fun k => match k with
  | 0 => ("CreasedAgain$Ironing", "texts", "LCreasedAgain$Texts;", true)
  | 1 => ("CreasedAgain$Ironing", "order", "[I", true)
  | 2 => ("CreasedAgain$Ironing", "many", "I", false)
  | 3 => ("CreasedAgain$Ironing", "spray", "I", false)
  | 4 => ("CreasedAgain$Ironing", "ahead", "[[I", true)
  | 5 => ("CreasedAgain$Ironing", "minutes", "[I", true)
  | 6 => ("CreasedAgain$Ironing", "weight", "[I", true)
  | 7 => ("CreasedAgain$Ironing", "shirt", "LCreasedAgain$Shirt;", false)
  | 8 => ("CreasedAgain$Ironing", "minute", "I", false)
  | _ => ("CreasedAgain$Ironing", "sprayedAt", "I", false)
def tyX0 : Nat → FieldType := fun k => match k with
  | 0 => .object "CreasedAgain$Texts"
  | 1 => .array .int
  | 2 => .int
  | 3 => .int
  | 4 => .array (.array .int)
  | 5 => .array .int
  | 6 => .array .int
  | 7 => .object "CreasedAgain$Shirt"
  | 8 => .int
  | _ => .int
theorem nmX0 : ∀ a, a < 10 → ∀ b, b < 10 → a ≠ b → (TX0 a).2.1 ≠ (TX0 b).2.1 := by decide +kernel
theorem tyX0_ok : ∀ k, k < 10 → parseFieldDescriptor (TX0 k).2.2.1 = some (tyX0 k) := by decide +kernel
abbrev cX0_init : ByteArray := prog_2_method_1_code
def yX0_init : MethodName := ⟨RX0, "<init>", "(LCreasedAgain$Texts;)V"⟩
abbrev cX0_clear : ByteArray := prog_2_method_2_code
def yX0_clear : MethodName := ⟨RX0, "clear", "()V"⟩
abbrev cX0_append : ByteArray := prog_2_method_3_code
def yX0_append : MethodName := ⟨RX0, "append", "(I)V"⟩
abbrev cX0_choose : ByteArray := prog_2_method_4_code
def yX0_choose : MethodName := ⟨RX0, "choose", "(LCreasedAgain$Shirt;I)V"⟩
abbrev cX0_chooseWorstFirst : ByteArray := prog_2_method_5_code
def yX0_chooseWorstFirst : MethodName := ⟨RX0, "chooseWorstFirst", "(LCreasedAgain$Shirt;)V"⟩
abbrev cX0_run : ByteArray := prog_2_method_6_code
def yX0_run : MethodName := ⟨RX0, "run", "(LCreasedAgain$Shirt;)V"⟩
abbrev cX0_runFrom : ByteArray := prog_2_method_7_code
def yX0_runFrom : MethodName := ⟨RX0, "runFrom", "(I)V"⟩
abbrev cX0_begin : ByteArray := prog_2_method_8_code
def yX0_begin : MethodName := ⟨RX0, "begin", "(LCreasedAgain$Shirt;)V"⟩
abbrev cX0_ironOne : ByteArray := prog_2_method_9_code
def yX0_ironOne : MethodName := ⟨RX0, "ironOne", "(I)V"⟩
abbrev cX0_keeps : ByteArray := prog_2_method_10_code
def yX0_keeps : MethodName := ⟨RX0, "keeps", "(II)I"⟩
abbrev cX0_takes : ByteArray := prog_2_method_11_code
def yX0_takes : MethodName := ⟨RX0, "takes", "(II)I"⟩
abbrev cX0_crumples : ByteArray := prog_2_method_12_code
def yX0_crumples : MethodName := ⟨RX0, "crumples", "(II)I"⟩
abbrev cX0_nameAll : ByteArray := prog_2_method_13_code
def yX0_nameAll : MethodName := ⟨RX0, "nameAll", "(II)V"⟩
abbrev cX0_last : ByteArray := prog_2_method_14_code
def yX0_last : MethodName := ⟨RX0, "last", "()[I"⟩
abbrev cX0_creased : ByteArray := prog_2_method_15_code
def yX0_creased : MethodName := ⟨RX0, "creased", "(LCreasedAgain$Shirt;)I"⟩
abbrev cX0_digits : ByteArray := prog_2_method_16_code
def yX0_digits : MethodName := ⟨RX0, "digits", "()I"⟩
abbrev cX0_answer : ByteArray := prog_2_method_17_code
def yX0_answer : MethodName := ⟨RX0, "answer", "(LCreasedAgain$Shirt;I)I"⟩
abbrev cX0_doneAt : ByteArray := prog_2_method_18_code
def yX0_doneAt : MethodName := ⟨RX0, "doneAt", "(I)I"⟩
abbrev cX0_exchange : ByteArray := prog_2_method_19_code
def yX0_exchange : MethodName := ⟨RX0, "exchange", "(II)V"⟩
abbrev cX0_next : ByteArray := prog_2_method_20_code
def yX0_next : MethodName := ⟨RX0, "next", "()I"⟩
def RX1 : String := "CreasedAgain$Kinds"
def TX1 : u_T := fun k => match k with
  | _ => ("", "", "", false)
def tyX1 : Nat → FieldType := fun k => match k with
  | _ => .int
theorem nmX1 : ∀ a, a < 0 → ∀ b, b < 0 → a ≠ b → (TX1 a).2.1 ≠ (TX1 b).2.1 := by decide +kernel
theorem tyX1_ok : ∀ k, k < 0 → parseFieldDescriptor (TX1 k).2.2.1 = some (tyX1 k) := by decide +kernel
abbrev cX1_keeps : ByteArray := prog_3_method_2_code
def yX1_keeps : MethodName := ⟨RX1, "keeps", "(IIII)I"⟩
abbrev cX1_takes : ByteArray := prog_3_method_3_code
def yX1_takes : MethodName := ⟨RX1, "takes", "(III)I"⟩
abbrev cX1_crumples : ByteArray := prog_3_method_4_code
def yX1_crumples : MethodName := ⟨RX1, "crumples", "(II)I"⟩
abbrev cX1_shows : ByteArray := prog_3_method_5_code
def yX1_shows : MethodName := ⟨RX1, "shows", "(I)I"⟩
abbrev cX1_isUnder : ByteArray := prog_3_method_6_code
def yX1_isUnder : MethodName := ⟨RX1, "isUnder", "(II)Z"⟩
def RX2 : String := "CreasedAgain$Reader"
def TX2 : u_T := fun k => match k with
  | 0 => ("CreasedAgain$Reader", "tape", "[I", true)
  | 1 => ("CreasedAgain$Reader", "size", "I", false)
  | 2 => ("CreasedAgain$Reader", "code", "[I", false)
  | 3 => ("CreasedAgain$Reader", "length", "I", false)
  | 4 => ("CreasedAgain$Reader", "at", "I", false)
  | 5 => ("CreasedAgain$Reader", "place", "I", false)
  | 6 => ("CreasedAgain$Reader", "token", "I", false)
  | _ => ("CreasedAgain$Reader", "value", "I", false)
def tyX2 : Nat → FieldType := fun k => match k with
  | 0 => .array .int
  | 1 => .int
  | 2 => .array .int
  | 3 => .int
  | 4 => .int
  | 5 => .int
  | 6 => .int
  | _ => .int
theorem nmX2 : ∀ a, a < 8 → ∀ b, b < 8 → a ≠ b → (TX2 a).2.1 ≠ (TX2 b).2.1 := by decide +kernel
theorem tyX2_ok : ∀ k, k < 8 → parseFieldDescriptor (TX2 k).2.2.1 = some (tyX2 k) := by decide +kernel
abbrev cX2_init : ByteArray := prog_4_method_1_code
def yX2_init : MethodName := ⟨RX2, "<init>", "()V"⟩
abbrev cX2_takeIn : ByteArray := prog_4_method_2_code
def yX2_takeIn : MethodName := ⟨RX2, "takeIn", "(I)Z"⟩
abbrev cX2_read : ByteArray := prog_4_method_3_code
def yX2_read : MethodName := ⟨RX2, "read", "([I[I)I"⟩
abbrev cX2_either : ByteArray := prog_4_method_4_code
def yX2_either : MethodName := ⟨RX2, "either", "(I)Z"⟩
abbrev cX2_both : ByteArray := prog_4_method_5_code
def yX2_both : MethodName := ⟨RX2, "both", "(I)Z"⟩
abbrev cX2_negation : ByteArray := prog_4_method_6_code
def yX2_negation : MethodName := ⟨RX2, "negation", "(I)Z"⟩
abbrev cX2_comparison : ByteArray := prog_4_method_7_code
def yX2_comparison : MethodName := ⟨RX2, "comparison", "(I)Z"⟩
abbrev cX2_sum : ByteArray := prog_4_method_8_code
def yX2_sum : MethodName := ⟨RX2, "sum", "(I)Z"⟩
abbrev cX2_term : ByteArray := prog_4_method_9_code
def yX2_term : MethodName := ⟨RX2, "term", "(I)Z"⟩
abbrev cX2_one : ByteArray := prog_4_method_10_code
def yX2_one : MethodName := ⟨RX2, "one", "(I)Z"⟩
abbrev cX2_emit : ByteArray := prog_4_method_11_code
def yX2_emit : MethodName := ⟨RX2, "emit", "(I)V"⟩
abbrev cX2_advance : ByteArray := prog_4_method_12_code
def yX2_advance : MethodName := ⟨RX2, "advance", "()V"⟩
abbrev cX2_advanceOverNumber : ByteArray := prog_4_method_13_code
def yX2_advanceOverNumber : MethodName := ⟨RX2, "advanceOverNumber", "()V"⟩
abbrev cX2_advanceOverWord : ByteArray := prog_4_method_14_code
def yX2_advanceOverWord : MethodName := ⟨RX2, "advanceOverWord", "()V"⟩
abbrev cX2_name : ByteArray := prog_4_method_15_code
def yX2_name : MethodName := ⟨RX2, "name", "()I"⟩
abbrev cX2_key : ByteArray := prog_4_method_16_code
def yX2_key : MethodName := ⟨RX2, "key", "()I"⟩
abbrev cX2_isWord : ByteArray := prog_4_method_17_code
def yX2_isWord : MethodName := ⟨RX2, "isWord", "(Ljava/lang/String;)Z"⟩
abbrev cX2_isLetter : ByteArray := prog_4_method_18_code
def yX2_isLetter : MethodName := ⟨RX2, "isLetter", "(I)Z"⟩
abbrev cX2_isDigit : ByteArray := prog_4_method_19_code
def yX2_isDigit : MethodName := ⟨RX2, "isDigit", "(I)Z"⟩
abbrev cX2_isSign : ByteArray := prog_4_method_20_code
def yX2_isSign : MethodName := ⟨RX2, "isSign", "(I)Z"⟩
def RX3 : String := "CreasedAgain$Search"
def TX3 : u_T := fun k => match k with
  | 0 => ("CreasedAgain$Search", "ironing", "LCreasedAgain$Ironing;", true)
  | 1 => ("CreasedAgain$Search", "trial", "LCreasedAgain$Shirt;", true)
  | 2 => ("CreasedAgain$Search", "least", "I", false)
  | _ => ("CreasedAgain$Search", "which", "I", false)
def tyX3 : Nat → FieldType := fun k => match k with
  | 0 => .object "CreasedAgain$Ironing"
  | 1 => .object "CreasedAgain$Shirt"
  | 2 => .int
  | _ => .int
theorem nmX3 : ∀ a, a < 4 → ∀ b, b < 4 → a ≠ b → (TX3 a).2.1 ≠ (TX3 b).2.1 := by decide +kernel
theorem tyX3_ok : ∀ k, k < 4 → parseFieldDescriptor (TX3 k).2.2.1 = some (tyX3 k) := by decide +kernel
abbrev cX3_init : ByteArray := prog_5_method_1_code
def yX3_init : MethodName := ⟨RX3, "<init>", "(LCreasedAgain$Ironing;LCreasedAgain$Shirt;)V"⟩
abbrev cX3_begin : ByteArray := prog_5_method_2_code
def yX3_begin : MethodName := ⟨RX3, "begin", "(I)V"⟩
abbrev cX3_offer : ByteArray := prog_5_method_3_code
def yX3_offer : MethodName := ⟨RX3, "offer", "(II)V"⟩
abbrev cX3_bestOrder : ByteArray := prog_5_method_4_code
def yX3_bestOrder : MethodName := ⟨RX3, "bestOrder", "(LCreasedAgain$Shirt;)V"⟩
abbrev cX3_swap : ByteArray := prog_5_method_5_code
def yX3_swap : MethodName := ⟨RX3, "swap", "(LCreasedAgain$Shirt;)V"⟩
abbrev cX3_without : ByteArray := prog_5_method_6_code
def yX3_without : MethodName := ⟨RX3, "without", "(LCreasedAgain$Shirt;)V"⟩
abbrev cX3_sprayed : ByteArray := prog_5_method_7_code
def yX3_sprayed : MethodName := ⟨RX3, "sprayed", "(LCreasedAgain$Shirt;)V"⟩
abbrev cX3_setting : ByteArray := prog_5_method_8_code
def yX3_setting : MethodName := ⟨RX3, "setting", "(LCreasedAgain$Shirt;I)V"⟩
abbrev cX3_fewest : ByteArray := prog_5_method_9_code
def yX3_fewest : MethodName := ⟨RX3, "fewest", "(LCreasedAgain$Shirt;I)I"⟩
def RX4 : String := "CreasedAgain$Sheets"
def TX4 : u_T := fun k => match k with
  | 0 => ("CreasedAgain$Sheets", "sort", "[I", true)
  | 1 => ("CreasedAgain$Sheets", "size", "[I", true)
  | _ => ("CreasedAgain$Sheets", "items", "[[I", true)
def tyX4 : Nat → FieldType := fun k => match k with
  | 0 => .array .int
  | 1 => .array .int
  | _ => .array (.array .int)
theorem nmX4 : ∀ a, a < 3 → ∀ b, b < 3 → a ≠ b → (TX4 a).2.1 ≠ (TX4 b).2.1 := by decide +kernel
theorem tyX4_ok : ∀ k, k < 3 → parseFieldDescriptor (TX4 k).2.2.1 = some (tyX4 k) := by decide +kernel
abbrev cX4_init : ByteArray := prog_6_method_1_code
def yX4_init : MethodName := ⟨RX4, "<init>", "()V"⟩
abbrev cX4_has : ByteArray := prog_6_method_2_code
def yX4_has : MethodName := ⟨RX4, "has", "(I)Z"⟩
abbrev cX4_isMissing : ByteArray := prog_6_method_3_code
def yX4_isMissing : MethodName := ⟨RX4, "isMissing", "(I)Z"⟩
abbrev cX4_hasItem : ByteArray := prog_6_method_4_code
def yX4_hasItem : MethodName := ⟨RX4, "hasItem", "(II)Z"⟩
abbrev cX4_hasItems : ByteArray := prog_6_method_5_code
def yX4_hasItems : MethodName := ⟨RX4, "hasItems", "(III)Z"⟩
abbrev cX4_become : ByteArray := prog_6_method_6_code
def yX4_become : MethodName := ⟨RX4, "become", "(III)V"⟩
abbrev cX4_put : ByteArray := prog_6_method_7_code
def yX4_put : MethodName := ⟨RX4, "put", "(III)V"⟩
def RX5 : String := "CreasedAgain$Shirt"
def TX5 : u_T := fun k => match k with
  | 0 => ("CreasedAgain$Shirt", "heat", "I", false)
  | 1 => ("CreasedAgain$Shirt", "damp", "I", false)
  | 2 => ("CreasedAgain$Shirt", "rule", "I", false)
  | 3 => ("CreasedAgain$Shirt", "count", "I", false)
  | 4 => ("CreasedAgain$Shirt", "kind", "[I", true)
  | 5 => ("CreasedAgain$Shirt", "number", "[I", true)
  | 6 => ("CreasedAgain$Shirt", "creases", "[I", true)
  | _ => ("CreasedAgain$Shirt", "lies", "[I", true)
def tyX5 : Nat → FieldType := fun k => match k with
  | 0 => .int
  | 1 => .int
  | 2 => .int
  | 3 => .int
  | 4 => .array .int
  | 5 => .array .int
  | 6 => .array .int
  | _ => .array .int
theorem nmX5 : ∀ a, a < 8 → ∀ b, b < 8 → a ≠ b → (TX5 a).2.1 ≠ (TX5 b).2.1 := by decide +kernel
theorem tyX5_ok : ∀ k, k < 8 → parseFieldDescriptor (TX5 k).2.2.1 = some (tyX5 k) := by decide +kernel
abbrev cX5_init : ByteArray := prog_7_method_1_code
def yX5_init : MethodName := ⟨RX5, "<init>", "()V"⟩
abbrev cX5_has : ByteArray := prog_7_method_2_code
def yX5_has : MethodName := ⟨RX5, "has", "(I)Z"⟩
abbrev cX5_add : ByteArray := prog_7_method_3_code
def yX5_add : MethodName := ⟨RX5, "add", "(II)Z"⟩
abbrev cX5_item : ByteArray := prog_7_method_4_code
def yX5_item : MethodName := ⟨RX5, "item", "(II)I"⟩
abbrev cX5_itemOf : ByteArray := prog_7_method_5_code
def yX5_itemOf : MethodName := ⟨RX5, "itemOf", "(II)I"⟩
abbrev cX5_put : ByteArray := prog_7_method_6_code
def yX5_put : MethodName := ⟨RX5, "put", "(III)V"⟩
abbrev cX5_putOf : ByteArray := prog_7_method_7_code
def yX5_putOf : MethodName := ⟨RX5, "putOf", "(III)V"⟩
abbrev cX5_become : ByteArray := prog_7_method_8_code
def yX5_become : MethodName := ⟨RX5, "become", "(LCreasedAgain$Shirt;)V"⟩
abbrev cX5_draw : ByteArray := prog_7_method_9_code
def yX5_draw : MethodName := ⟨RX5, "draw", "(I)V"⟩
abbrev cX5_creasedBy : ByteArray := prog_7_method_10_code
def yX5_creasedBy : MethodName := ⟨RX5, "creasedBy", "([I)I"⟩
def RX6 : String := "CreasedAgain$Texts"
def TX6 : u_T := fun k => match k with
  | 0 => ("CreasedAgain$Texts", "code", "[[I", true)
  | 1 => ("CreasedAgain$Texts", "start", "[[I", true)
  | 2 => ("CreasedAgain$Texts", "names", "[I", true)
  | 3 => ("CreasedAgain$Texts", "stack", "[I", true)
  | _ => ("CreasedAgain$Texts", "count", "I", false)
def tyX6 : Nat → FieldType := fun k => match k with
  | 0 => .array (.array .int)
  | 1 => .array (.array .int)
  | 2 => .array .int
  | 3 => .array .int
  | _ => .int
theorem nmX6 : ∀ a, a < 5 → ∀ b, b < 5 → a ≠ b → (TX6 a).2.1 ≠ (TX6 b).2.1 := by decide +kernel
theorem tyX6_ok : ∀ k, k < 5 → parseFieldDescriptor (TX6 k).2.2.1 = some (tyX6 k) := by decide +kernel
abbrev cX6_init : ByteArray := prog_8_method_1_code
def yX6_init : MethodName := ⟨RX6, "<init>", "()V"⟩
abbrev cX6_bounded : ByteArray := prog_8_method_2_code
def yX6_bounded : MethodName := ⟨RX6, "bounded", "(II)I"⟩
abbrev cX6_joined : ByteArray := prog_8_method_3_code
def yX6_joined : MethodName := ⟨RX6, "joined", "(III)I"⟩
def RX7 : String := "CreasedAgain"
def TX7 : u_T := fun k => match k with
  | 0 => ("CreasedAgain", "now", "LCreasedAgain$Shirt;", true)
  | 1 => ("CreasedAgain", "kept", "LCreasedAgain$Shirt;", true)
  | 2 => ("CreasedAgain", "trial", "LCreasedAgain$Shirt;", true)
  | 3 => ("CreasedAgain", "texts", "LCreasedAgain$Texts;", true)
  | 4 => ("CreasedAgain", "reader", "LCreasedAgain$Reader;", true)
  | 5 => ("CreasedAgain", "ironing", "LCreasedAgain$Ironing;", true)
  | 6 => ("CreasedAgain", "search", "LCreasedAgain$Search;", true)
  | 7 => ("CreasedAgain", "sheets", "LCreasedAgain$Sheets;", true)
  | _ => ("CreasedAgain", "hasImage", "Z", false)
def tyX7 : Nat → FieldType := fun k => match k with
  | 0 => .object "CreasedAgain$Shirt"
  | 1 => .object "CreasedAgain$Shirt"
  | 2 => .object "CreasedAgain$Shirt"
  | 3 => .object "CreasedAgain$Texts"
  | 4 => .object "CreasedAgain$Reader"
  | 5 => .object "CreasedAgain$Ironing"
  | 6 => .object "CreasedAgain$Search"
  | 7 => .object "CreasedAgain$Sheets"
  | _ => .boolean
theorem nmX7 : ∀ a, a < 9 → ∀ b, b < 9 → a ≠ b → (TX7 a).2.1 ≠ (TX7 b).2.1 := by decide +kernel
theorem tyX7_ok : ∀ k, k < 9 → parseFieldDescriptor (TX7 k).2.2.1 = some (tyX7 k) := by decide +kernel
abbrev cX7_init : ByteArray := prog_1_method_1_code
def yX7_init : MethodName := ⟨RX7, "<init>", "()V"⟩
abbrev cX7_set : ByteArray := prog_1_method_2_code
def yX7_set : MethodName := ⟨RX7, "set", "(III)I"⟩
abbrev cX7_part : ByteArray := prog_1_method_3_code
def yX7_part : MethodName := ⟨RX7, "part", "(II)I"⟩
abbrev cX7_told : ByteArray := prog_1_method_4_code
def yX7_told : MethodName := ⟨RX7, "told", "(II)I"⟩
abbrev cX7_iron : ByteArray := prog_1_method_5_code
def yX7_iron : MethodName := ⟨RX7, "iron", "(I)I"⟩
abbrev cX7_feed : ByteArray := prog_1_method_6_code
def yX7_feed : MethodName := ⟨RX7, "feed", "(I)I"⟩
abbrev cX7_text : ByteArray := prog_1_method_7_code
def yX7_text : MethodName := ⟨RX7, "text", "()I"⟩
abbrev cX7_force : ByteArray := prog_1_method_8_code
def yX7_force : MethodName := ⟨RX7, "force", "(I)I"⟩
abbrev cX7_plain : ByteArray := prog_1_method_9_code
def yX7_plain : MethodName := ⟨RX7, "plain", "(I)I"⟩
abbrev cX7_order : ByteArray := prog_1_method_10_code
def yX7_order : MethodName := ⟨RX7, "order", "(II)I"⟩
abbrev cX7_best : ByteArray := prog_1_method_11_code
def yX7_best : MethodName := ⟨RX7, "best", "(I)I"⟩
abbrev cX7_worst : ByteArray := prog_1_method_12_code
def yX7_worst : MethodName := ⟨RX7, "worst", "(I)I"⟩
abbrev cX7_change : ByteArray := prog_1_method_13_code
def yX7_change : MethodName := ⟨RX7, "change", "(I)I"⟩
abbrev cX7_leave : ByteArray := prog_1_method_14_code
def yX7_leave : MethodName := ⟨RX7, "leave", "(I)I"⟩
abbrev cX7_spray : ByteArray := prog_1_method_15_code
def yX7_spray : MethodName := ⟨RX7, "spray", "(I)I"⟩
abbrev cX7_how : ByteArray := prog_1_method_16_code
def yX7_how : MethodName := ⟨RX7, "how", "(I)I"⟩
abbrev cX7_enough : ByteArray := prog_1_method_17_code
def yX7_enough : MethodName := ⟨RX7, "enough", "(I)I"⟩
abbrev cX7_tells : ByteArray := prog_1_method_18_code
def yX7_tells : MethodName := ⟨RX7, "tells", "(II)I"⟩
abbrev cX7_film : ByteArray := prog_1_method_19_code
def yX7_film : MethodName := ⟨RX7, "film", "(I)I"⟩
abbrev cX7_drawn : ByteArray := prog_1_method_20_code
def yX7_drawn : MethodName := ⟨RX7, "drawn", "(I)I"⟩
abbrev cX7_chance : ByteArray := prog_1_method_21_code
def yX7_chance : MethodName := ⟨RX7, "chance", "(III)J"⟩
abbrev cX7_image : ByteArray := prog_1_method_22_code
def yX7_image : MethodName := ⟨RX7, "image", "()I"⟩
abbrev cX7_back : ByteArray := prog_1_method_23_code
def yX7_back : MethodName := ⟨RX7, "back", "()I"⟩
abbrev cX7_count : ByteArray := prog_1_method_24_code
def yX7_count : MethodName := ⟨RX7, "count", "(I)I"⟩
abbrev cX7_sheet : ByteArray := prog_1_method_25_code
def yX7_sheet : MethodName := ⟨RX7, "sheet", "(III)I"⟩
abbrev cX7_cell : ByteArray := prog_1_method_26_code
def yX7_cell : MethodName := ⟨RX7, "cell", "(III)I"⟩
abbrev cX7_copy : ByteArray := prog_1_method_27_code
def yX7_copy : MethodName := ⟨RX7, "copy", "(IIIII)I"⟩
abbrev cX7_parts : ByteArray := prog_1_method_28_code
def yX7_parts : MethodName := ⟨RX7, "parts", "(IIII)I"⟩
abbrev cX7_taken : ByteArray := prog_1_method_29_code
def yX7_taken : MethodName := ⟨RX7, "taken", "(II)I"⟩
abbrev cX7_isNoPart : ByteArray := prog_1_method_30_code
def yX7_isNoPart : MethodName := ⟨RX7, "isNoPart", "(II)Z"⟩
abbrev cX7_isOfOrder : ByteArray := prog_1_method_31_code
def yX7_isOfOrder : MethodName := ⟨RX7, "isOfOrder", "(I)Z"⟩
abbrev cX7_takesOrder : ByteArray := prog_1_method_32_code
def yX7_takesOrder : MethodName := ⟨RX7, "takesOrder", "(I)Z"⟩
abbrev cX7_otherwise : ByteArray := prog_1_method_33_code
def yX7_otherwise : MethodName := ⟨RX7, "otherwise", "(LCreasedAgain$Shirt;I)I"⟩
abbrev cX7_readBack : ByteArray := prog_1_method_34_code
def yX7_readBack : MethodName := ⟨RX7, "readBack", "(II)I"⟩
abbrev cX7_itemReadBack : ByteArray := prog_1_method_35_code
def yX7_itemReadBack : MethodName := ⟨RX7, "itemReadBack", "(I)I"⟩
abbrev cX7_common : ByteArray := prog_1_method_36_code
def yX7_common : MethodName := ⟨RX7, "common", "(II)I"⟩
def RX8 : String := "CreasedAgainModel"
def TX8 : u_T := fun k => match k with
  | 0 => ("CreasedAgainModel", "thrown", "I", false)
  | 1 => ("CreasedAgainModel", "texts", "[I", true)
  | 2 => ("CreasedAgainModel", "textSize", "[I", true)
  | 3 => ("CreasedAgainModel", "textCount", "I", false)
  | 4 => ("CreasedAgainModel", "rule", "I", false)
  | 5 => ("CreasedAgainModel", "tape", "[I", true)
  | 6 => ("CreasedAgainModel", "taped", "I", false)
  | 7 => ("CreasedAgainModel", "heatNow", "I", false)
  | 8 => ("CreasedAgainModel", "dampNow", "I", false)
  | 9 => ("CreasedAgainModel", "kinds", "[I", true)
  | 10 => ("CreasedAgainModel", "rows", "[I", true)
  | 11 => ("CreasedAgainModel", "many", "I", false)
  | 12 => ("CreasedAgainModel", "ofMinute", "I", false)
  | 13 => ("CreasedAgainModel", "ofDamp", "I", false)
  | 14 => ("CreasedAgainModel", "ofHeat", "I", false)
  | 15 => ("CreasedAgainModel", "ofNumber", "I", false)
  | 16 => ("CreasedAgainModel", "ofCrease", "I", false)
  | 17 => ("CreasedAgainModel", "ofPart", "I", false)
  | 18 => ("CreasedAgainModel", "from", "I", false)
  | 19 => ("CreasedAgainModel", "size", "I", false)
  | 20 => ("CreasedAgainModel", "here", "I", false)
  | 21 => ("CreasedAgainModel", "token", "I", false)
  | 22 => ("CreasedAgainModel", "tokenAt", "I", false)
  | 23 => ("CreasedAgainModel", "tokenWorth", "J", false)
  | 24 => ("CreasedAgainModel", "open", "I", false)
  | 25 => ("CreasedAgainModel", "bad", "Z", false)
  | 26 => ("CreasedAgainModel", "fault", "I", false)
  | 27 => ("CreasedAgainModel", "creases", "[I", true)
  | 28 => ("CreasedAgainModel", "ironedAt", "[I", true)
  | 29 => ("CreasedAgainModel", "minutes", "I", false)
  | 30 => ("CreasedAgainModel", "dryFrom", "I", false)
  | 31 => ("CreasedAgainModel", "frames", "[I", true)
  | 32 => ("CreasedAgainModel", "isFound", "Z", false)
  | 33 => ("CreasedAgainModel", "bestCreased", "I", false)
  | 34 => ("CreasedAgainModel", "bestDigits", "I", false)
  | 35 => ("CreasedAgainModel", "worstDigits", "I", false)
  | 36 => ("CreasedAgainModel", "creasesWas", "[I", true)
  | 37 => ("CreasedAgainModel", "rowsKept", "[I", true)
  | 38 => ("CreasedAgainModel", "manyKept", "I", false)
  | 39 => ("CreasedAgainModel", "heatKept", "I", false)
  | 40 => ("CreasedAgainModel", "dampKept", "I", false)
  | 41 => ("CreasedAgainModel", "ruleKept", "I", false)
  | 42 => ("CreasedAgainModel", "isThere", "[Z", true)
  | 43 => ("CreasedAgainModel", "sorts", "[I", true)
  | 44 => ("CreasedAgainModel", "sheetSize", "[I", true)
  | _ => ("CreasedAgainModel", "items", "[I", true)
def tyX8 : Nat → FieldType := fun k => match k with
  | 0 => .int
  | 1 => .array .int
  | 2 => .array .int
  | 3 => .int
  | 4 => .int
  | 5 => .array .int
  | 6 => .int
  | 7 => .int
  | 8 => .int
  | 9 => .array .int
  | 10 => .array .int
  | 11 => .int
  | 12 => .int
  | 13 => .int
  | 14 => .int
  | 15 => .int
  | 16 => .int
  | 17 => .int
  | 18 => .int
  | 19 => .int
  | 20 => .int
  | 21 => .int
  | 22 => .int
  | 23 => .long
  | 24 => .int
  | 25 => .boolean
  | 26 => .int
  | 27 => .array .int
  | 28 => .array .int
  | 29 => .int
  | 30 => .int
  | 31 => .array .int
  | 32 => .boolean
  | 33 => .int
  | 34 => .int
  | 35 => .int
  | 36 => .array .int
  | 37 => .array .int
  | 38 => .int
  | 39 => .int
  | 40 => .int
  | 41 => .int
  | 42 => .array .boolean
  | 43 => .array .int
  | 44 => .array .int
  | _ => .array .int
theorem nmX8 : ∀ a, a < 46 → ∀ b, b < 46 → a ≠ b → (TX8 a).2.1 ≠ (TX8 b).2.1 := by decide +kernel
theorem tyX8_ok : ∀ k, k < 46 → parseFieldDescriptor (TX8 k).2.2.1 = some (tyX8 k) := by decide +kernel
abbrev cX8_in : ByteArray := prog_10_method_2_code
def yX8_in : MethodName := ⟨RX8, "in", "(JJJ)Z"⟩
abbrev cX8_within : ByteArray := prog_10_method_3_code
def yX8_within : MethodName := ⟨RX8, "within", "(III)I"⟩
abbrev cX8_init : ByteArray := prog_10_method_4_code
def yX8_init : MethodName := ⟨RX8, "<init>", "()V"⟩
abbrev cX8_spell : ByteArray := prog_10_method_5_code
def yX8_spell : MethodName := ⟨RX8, "spell", "(IIIIIIIII)V"⟩
abbrev cX8_isPart : ByteArray := prog_10_method_6_code
def yX8_isPart : MethodName := ⟨RX8, "isPart", "(I)Z"⟩
abbrev cX8_mostOf : ByteArray := prog_10_method_7_code
def yX8_mostOf : MethodName := ⟨RX8, "mostOf", "(I)I"⟩
abbrev cX8_set : ByteArray := prog_10_method_8_code
def yX8_set : MethodName := ⟨RX8, "set", "(III)I"⟩
abbrev cX8_lays : ByteArray := prog_10_method_9_code
def yX8_lays : MethodName := ⟨RX8, "lays", "(III)V"⟩
abbrev cX8_part : ByteArray := prog_10_method_10_code
def yX8_part : MethodName := ⟨RX8, "part", "(II)I"⟩
abbrev cX8_told : ByteArray := prog_10_method_11_code
def yX8_told : MethodName := ⟨RX8, "told", "(II)I"⟩
abbrev cX8_showsOf : ByteArray := prog_10_method_12_code
def yX8_showsOf : MethodName := ⟨RX8, "showsOf", "(I)I"⟩
abbrev cX8_feed : ByteArray := prog_10_method_13_code
def yX8_feed : MethodName := ⟨RX8, "feed", "(I)I"⟩
abbrev cX8_byteAt : ByteArray := prog_10_method_14_code
def yX8_byteAt : MethodName := ⟨RX8, "byteAt", "(I)I"⟩
abbrev cX8_next : ByteArray := prog_10_method_15_code
def yX8_next : MethodName := ⟨RX8, "next", "()V"⟩
abbrev cX8_fail : ByteArray := prog_10_method_16_code
def yX8_fail : MethodName := ⟨RX8, "fail", "()V"⟩
abbrev cX8_isLetter : ByteArray := prog_10_method_17_code
def yX8_isLetter : MethodName := ⟨RX8, "isLetter", "(II)Z"⟩
abbrev cX8_isWord : ByteArray := prog_10_method_18_code
def yX8_isWord : MethodName := ⟨RX8, "isWord", "(IIIIIIII)Z"⟩
abbrev cX8_isSign : ByteArray := prog_10_method_19_code
def yX8_isSign : MethodName := ⟨RX8, "isSign", "(I)Z"⟩
abbrev cX8_opens : ByteArray := prog_10_method_20_code
def yX8_opens : MethodName := ⟨RX8, "opens", "()Z"⟩
abbrev cX8_name : ByteArray := prog_10_method_21_code
def yX8_name : MethodName := ⟨RX8, "name", "()I"⟩
abbrev cX8_atom : ByteArray := prog_10_method_22_code
def yX8_atom : MethodName := ⟨RX8, "atom", "()I"⟩
abbrev cX8_term : ByteArray := prog_10_method_23_code
def yX8_term : MethodName := ⟨RX8, "term", "()I"⟩
abbrev cX8_added : ByteArray := prog_10_method_24_code
def yX8_added : MethodName := ⟨RX8, "added", "()I"⟩
abbrev cX8_not : ByteArray := prog_10_method_25_code
def yX8_not : MethodName := ⟨RX8, "not", "()I"⟩
abbrev cX8_both : ByteArray := prog_10_method_26_code
def yX8_both : MethodName := ⟨RX8, "both", "()I"⟩
abbrev cX8_either : ByteArray := prog_10_method_27_code
def yX8_either : MethodName := ⟨RX8, "either", "()I"⟩
abbrev cX8_part_ : ByteArray := prog_10_method_28_code
def yX8_part_ : MethodName := ⟨RX8, "part", "(Z)I"⟩
abbrev cX8_read : ByteArray := prog_10_method_29_code
def yX8_read : MethodName := ⟨RX8, "read", "(II)I"⟩
abbrev cX8_text : ByteArray := prog_10_method_30_code
def yX8_text : MethodName := ⟨RX8, "text", "()I"⟩
abbrev cX8_force : ByteArray := prog_10_method_31_code
def yX8_force : MethodName := ⟨RX8, "force", "(I)I"⟩
abbrev cX8_begins : ByteArray := prog_10_method_32_code
def yX8_begins : MethodName := ⟨RX8, "begins", "()V"⟩
abbrev cX8_asks : ByteArray := prog_10_method_33_code
def yX8_asks : MethodName := ⟨RX8, "asks", "(II)I"⟩
abbrev cX8_keepsOf : ByteArray := prog_10_method_34_code
def yX8_keepsOf : MethodName := ⟨RX8, "keepsOf", "(I)I"⟩
abbrev cX8_takesOf : ByteArray := prog_10_method_35_code
def yX8_takesOf : MethodName := ⟨RX8, "takesOf", "(I)I"⟩
abbrev cX8_crumplesOf : ByteArray := prog_10_method_36_code
def yX8_crumplesOf : MethodName := ⟨RX8, "crumplesOf", "(I)I"⟩
abbrev cX8_irons : ByteArray := prog_10_method_37_code
def yX8_irons : MethodName := ⟨RX8, "irons", "(I)V"⟩
abbrev cX8_creased : ByteArray := prog_10_method_38_code
def yX8_creased : MethodName := ⟨RX8, "creased", "()I"⟩
abbrev cX8_iron : ByteArray := prog_10_method_39_code
def yX8_iron : MethodName := ⟨RX8, "iron", "(I)I"⟩
abbrev cX8_plainBut : ByteArray := prog_10_method_40_code
def yX8_plainBut : MethodName := ⟨RX8, "plainBut", "(I)I"⟩
abbrev cX8_isTold : ByteArray := prog_10_method_41_code
def yX8_isTold : MethodName := ⟨RX8, "isTold", "(I)Z"⟩
abbrev cX8_tellsOf : ByteArray := prog_10_method_42_code
def yX8_tellsOf : MethodName := ⟨RX8, "tellsOf", "(I)I"⟩
abbrev cX8_plain : ByteArray := prog_10_method_43_code
def yX8_plain : MethodName := ⟨RX8, "plain", "(I)I"⟩
abbrev cX8_isOrder : ByteArray := prog_10_method_44_code
def yX8_isOrder : MethodName := ⟨RX8, "isOrder", "(I)Z"⟩
abbrev cX8_order : ByteArray := prog_10_method_45_code
def yX8_order : MethodName := ⟨RX8, "order", "(II)I"⟩
abbrev cX8_seeks : ByteArray := prog_10_method_46_code
def yX8_seeks : MethodName := ⟨RX8, "seeks", "(III)V"⟩
abbrev cX8_best : ByteArray := prog_10_method_47_code
def yX8_best : MethodName := ⟨RX8, "best", "(I)I"⟩
abbrev cX8_worstFirst : ByteArray := prog_10_method_48_code
def yX8_worstFirst : MethodName := ⟨RX8, "worstFirst", "()I"⟩
abbrev cX8_worst : ByteArray := prog_10_method_49_code
def yX8_worst : MethodName := ⟨RX8, "worst", "(I)I"⟩
abbrev cX8_changed : ByteArray := prog_10_method_50_code
def yX8_changed : MethodName := ⟨RX8, "changed", "(II)I"⟩
abbrev cX8_change : ByteArray := prog_10_method_51_code
def yX8_change : MethodName := ⟨RX8, "change", "(I)I"⟩
abbrev cX8_leave : ByteArray := prog_10_method_52_code
def yX8_leave : MethodName := ⟨RX8, "leave", "(I)I"⟩
abbrev cX8_spray : ByteArray := prog_10_method_53_code
def yX8_spray : MethodName := ⟨RX8, "spray", "(I)I"⟩
abbrev cX8_how : ByteArray := prog_10_method_54_code
def yX8_how : MethodName := ⟨RX8, "how", "(I)I"⟩
abbrev cX8_bitsOf : ByteArray := prog_10_method_55_code
def yX8_bitsOf : MethodName := ⟨RX8, "bitsOf", "(I)I"⟩
abbrev cX8_enough : ByteArray := prog_10_method_56_code
def yX8_enough : MethodName := ⟨RX8, "enough", "(I)I"⟩
abbrev cX8_unlike : ByteArray := prog_10_method_57_code
def yX8_unlike : MethodName := ⟨RX8, "unlike", "(I)I"⟩
abbrev cX8_tells : ByteArray := prog_10_method_58_code
def yX8_tells : MethodName := ⟨RX8, "tells", "(II)I"⟩
abbrev cX8_film : ByteArray := prog_10_method_59_code
def yX8_film : MethodName := ⟨RX8, "film", "(I)I"⟩
abbrev cX8_draws : ByteArray := prog_10_method_60_code
def yX8_draws : MethodName := ⟨RX8, "draws", "(I)V"⟩
abbrev cX8_laysBack : ByteArray := prog_10_method_61_code
def yX8_laysBack : MethodName := ⟨RX8, "laysBack", "()V"⟩
abbrev cX8_drawn : ByteArray := prog_10_method_62_code
def yX8_drawn : MethodName := ⟨RX8, "drawn", "(I)I"⟩
abbrev cX8_chance : ByteArray := prog_10_method_63_code
def yX8_chance : MethodName := ⟨RX8, "chance", "(III)J"⟩
abbrev cX8_image : ByteArray := prog_10_method_64_code
def yX8_image : MethodName := ⟨RX8, "image", "()I"⟩
abbrev cX8_back : ByteArray := prog_10_method_65_code
def yX8_back : MethodName := ⟨RX8, "back", "()I"⟩
abbrev cX8_count : ByteArray := prog_10_method_66_code
def yX8_count : MethodName := ⟨RX8, "count", "(I)I"⟩
abbrev cX8_isSheet : ByteArray := prog_10_method_67_code
def yX8_isSheet : MethodName := ⟨RX8, "isSheet", "(I)Z"⟩
abbrev cX8_sheet : ByteArray := prog_10_method_68_code
def yX8_sheet : MethodName := ⟨RX8, "sheet", "(III)I"⟩
abbrev cX8_cell : ByteArray := prog_10_method_69_code
def yX8_cell : MethodName := ⟨RX8, "cell", "(III)I"⟩
abbrev cX8_copy : ByteArray := prog_10_method_70_code
def yX8_copy : MethodName := ⟨RX8, "copy", "(IIIII)I"⟩
abbrev cX8_parts : ByteArray := prog_10_method_71_code
def yX8_parts : MethodName := ⟨RX8, "parts", "(IIII)I"⟩
abbrev cX8_over : ByteArray := prog_10_method_72_code
def yX8_over : MethodName := ⟨RX8, "over", "(I)I"⟩
abbrev cX8_taken : ByteArray := prog_10_method_73_code
def yX8_taken : MethodName := ⟨RX8, "taken", "(II)I"⟩
def RJ6 : String := "java/lang/Integer"
abbrev cJ6_bitCount_0f7a4 : ByteArray := prog_11_method_49_code
def yJ6_bitCount_0f7a4 : MethodName := ⟨RJ6, "bitCount", "(I)I"⟩
def RJ9 : String := "java/lang/Math"
abbrev cJ9_max_7cf53 : ByteArray := prog_12_method_65_code
def yJ9_max_7cf53 : MethodName := ⟨RJ9, "max", "(II)I"⟩
abbrev cJ9_min_7cf53 : ByteArray := prog_12_method_69_code
def yJ9_min_7cf53 : MethodName := ⟨RJ9, "min", "(II)I"⟩
def RJ0 : String := "java/lang/String"
abbrev cJ0_length_8abf5 : ByteArray := prog_13_method_54_code
def yJ0_length_8abf5 : MethodName := ⟨RJ0, "length", "()I"⟩
abbrev cJ0_charAt_5068e : ByteArray := prog_13_method_56_code
def yJ0_charAt_5068e : MethodName := ⟨RJ0, "charAt", "(I)C"⟩
abbrev cJ0_coder_7d493 : ByteArray := prog_13_method_152_code
def yJ0_coder_7d493 : MethodName := ⟨RJ0, "coder", "()B"⟩
abbrev cJ0_isLatin1_aae02 : ByteArray := prog_13_method_154_code
def yJ0_isLatin1_aae02 : MethodName := ⟨RJ0, "isLatin1", "()Z"⟩
abbrev cJ0_checkIndex_df160 : ByteArray := prog_13_method_155_code
def yJ0_checkIndex_df160 : MethodName := ⟨RJ0, "checkIndex", "(II)V"⟩
def RJ1 : String := "java/lang/StringLatin1"
abbrev cJ1_charAt_3b067 : ByteArray := prog_14_method_2_code
def yJ1_charAt_3b067 : MethodName := ⟨RJ1, "charAt", "([BI)C"⟩
def RJ2 : String := "java/lang/StringUTF16"
abbrev cJ2_getChar_3b067 : ByteArray := prog_15_method_5_code
def yJ2_getChar_3b067 : MethodName := ⟨RJ2, "getChar", "([BI)C"⟩
abbrev cJ2_length_9d52b : ByteArray := prog_15_method_6_code
def yJ2_length_9d52b : MethodName := ⟨RJ2, "length", "([B)I"⟩
abbrev cJ2_charAt_3b067 : ByteArray := prog_15_method_83_code
def yJ2_charAt_3b067 : MethodName := ⟨RJ2, "charAt", "([BI)C"⟩
abbrev cJ2_checkIndex_2214a : ByteArray := prog_15_method_91_code
def yJ2_checkIndex_2214a : MethodName := ⟨RJ2, "checkIndex", "(I[B)V"⟩
def RJ10 : String := "java/lang/System"
def RJ7 : String := "java/util/Arrays"
abbrev cJ7_fill_53178 : ByteArray := prog_17_method_103_code
def yJ7_fill_53178 : MethodName := ⟨RJ7, "fill", "([II)V"⟩
def RJ3 : String := "jdk/internal/util/Preconditions"
abbrev cJ3_checkIndex_8e157 : ByteArray := prog_18_method_11_code
def yJ3_checkIndex_8e157 : MethodName := ⟨RJ3, "checkIndex", "(IILjava/util/function/BiFunction;)I"⟩
def RL : String := "CreasedAgainLaw"
abbrev cL_law : ByteArray := code
def yL_law : MethodName := ⟨RL, "law", "([I)Z"⟩
abbrev vwCl : List vw_C := [(RX0, TX0, 10), (RX2, TX2, 8), (RX3, TX3, 4), (RX4, TX4, 3), (RX5, TX5, 8), (RX6, TX6, 5), (RX7, TX7, 9), (RX8, TX8, 46)]
end
section
theorem dX0_init_0 : decode cX0_init 0 = .ok (.aload_n 0, 1) := by decide +kernel
theorem dX0_init_1 : decode cX0_init 1 = .ok (.invokespecial 3, 3) := by decide +kernel
theorem dX0_init_4 : decode cX0_init 4 = .ok (.aload_n 0, 1) := by decide +kernel
theorem dX0_init_5 : decode cX0_init 5 = .ok (.bipush 7, 2) := by decide +kernel
theorem dX0_init_7 : decode cX0_init 7 = .ok (.newarray .int, 2) := by decide +kernel
theorem dX0_init_9 : decode cX0_init 9 = .ok (.putfield 9, 3) := by decide +kernel
theorem dX0_init_12 : decode cX0_init 12 = .ok (.aload_n 0, 1) := by decide +kernel
theorem dX0_init_13 : decode cX0_init 13 = .ok (.iconst (-1), 1) := by decide +kernel
theorem dX0_init_14 : decode cX0_init 14 = .ok (.putfield 15, 3) := by decide +kernel
theorem dX0_init_17 : decode cX0_init 17 = .ok (.aload_n 0, 1) := by decide +kernel
theorem dX0_init_18 : decode cX0_init 18 = .ok (.bipush 8, 2) := by decide +kernel
theorem dX0_init_20 : decode cX0_init 20 = .ok (.bipush 7, 2) := by decide +kernel
theorem dX0_init_22 : decode cX0_init 22 = .ok (.multianewarray 19 2, 4) := by decide +kernel
theorem dX0_init_26 : decode cX0_init 26 = .ok (.putfield 21, 3) := by decide +kernel
theorem dX0_init_29 : decode cX0_init 29 = .ok (.aload_n 0, 1) := by decide +kernel
theorem dX0_init_30 : decode cX0_init 30 = .ok (.bipush 8, 2) := by decide +kernel
theorem dX0_init_32 : decode cX0_init 32 = .ok (.newarray .int, 2) := by decide +kernel
theorem dX0_init_34 : decode cX0_init 34 = .ok (.putfield 24, 3) := by decide +kernel
theorem dX0_init_37 : decode cX0_init 37 = .ok (.aload_n 0, 1) := by decide +kernel
theorem dX0_init_38 : decode cX0_init 38 = .ok (.bipush 7, 2) := by decide +kernel
theorem dX0_init_40 : decode cX0_init 40 = .ok (.newarray .int, 2) := by decide +kernel
theorem dX0_init_42 : decode cX0_init 42 = .ok (.putfield 27, 3) := by decide +kernel
theorem dX0_init_45 : decode cX0_init 45 = .ok (.aload_n 0, 1) := by decide +kernel
theorem dX0_init_46 : decode cX0_init 46 = .ok (.aload_n 1, 1) := by decide +kernel
theorem dX0_init_47 : decode cX0_init 47 = .ok (.putfield 30, 3) := by decide +kernel
theorem dX0_init_50 : decode cX0_init 50 = .ok (.return_, 1) := by decide +kernel
theorem dX0_clear_0 : decode cX0_clear 0 = .ok (.aload_n 0, 1) := by decide +kernel
theorem dX0_clear_1 : decode cX0_clear 1 = .ok (.iconst 0, 1) := by decide +kernel
theorem dX0_clear_2 : decode cX0_clear 2 = .ok (.putfield 34, 3) := by decide +kernel
theorem dX0_clear_5 : decode cX0_clear 5 = .ok (.return_, 1) := by decide +kernel
theorem dX0_append_0 : decode cX0_append 0 = .ok (.aload_n 0, 1) := by decide +kernel
theorem dX0_append_1 : decode cX0_append 1 = .ok (.getfield 34, 3) := by decide +kernel
theorem dX0_append_4 : decode cX0_append 4 = .ok (.bipush 7, 2) := by decide +kernel
theorem dX0_append_6 : decode cX0_append 6 = .ok (.if_icmp .ge 20, 3) := by decide +kernel
theorem dX0_append_9 : decode cX0_append 9 = .ok (.aload_n 0, 1) := by decide +kernel
theorem dX0_append_10 : decode cX0_append 10 = .ok (.getfield 9, 3) := by decide +kernel
theorem dX0_append_13 : decode cX0_append 13 = .ok (.aload_n 0, 1) := by decide +kernel
theorem dX0_append_14 : decode cX0_append 14 = .ok (.dup, 1) := by decide +kernel
theorem dX0_append_15 : decode cX0_append 15 = .ok (.getfield 34, 3) := by decide +kernel
theorem dX0_append_18 : decode cX0_append 18 = .ok (.dup_x1, 1) := by decide +kernel
theorem dX0_append_19 : decode cX0_append 19 = .ok (.iconst 1, 1) := by decide +kernel
theorem dX0_append_20 : decode cX0_append 20 = .ok (.iadd, 1) := by decide +kernel
theorem dX0_append_21 : decode cX0_append 21 = .ok (.putfield 34, 3) := by decide +kernel
theorem dX0_append_24 : decode cX0_append 24 = .ok (.iload_n 1, 1) := by decide +kernel
theorem dX0_append_25 : decode cX0_append 25 = .ok (.iastore, 1) := by decide +kernel
theorem dX0_append_26 : decode cX0_append 26 = .ok (.return_, 1) := by decide +kernel
theorem dX0_choose_0 : decode cX0_choose 0 = .ok (.aload_n 0, 1) := by decide +kernel
theorem dX0_choose_1 : decode cX0_choose 1 = .ok (.invokevirtual 37, 3) := by decide +kernel
theorem dX0_choose_4 : decode cX0_choose 4 = .ok (.iconst 0, 1) := by decide +kernel
theorem dX0_choose_5 : decode cX0_choose 5 = .ok (.istore_n 3, 1) := by decide +kernel
theorem dX0_choose_6 : decode cX0_choose 6 = .ok (.iload_n 3, 1) := by decide +kernel
theorem dX0_choose_7 : decode cX0_choose 7 = .ok (.aload_n 1, 1) := by decide +kernel
theorem dX0_choose_8 : decode cX0_choose 8 = .ok (.getfield 40, 3) := by decide +kernel
theorem dX0_choose_11 : decode cX0_choose 11 = .ok (.if_icmp .ge 22, 3) := by decide +kernel
theorem dX0_choose_14 : decode cX0_choose 14 = .ok (.iload_n 2, 1) := by decide +kernel
theorem dX0_choose_15 : decode cX0_choose 15 = .ok (.iload_n 3, 1) := by decide +kernel
theorem dX0_choose_16 : decode cX0_choose 16 = .ok (.ishr, 1) := by decide +kernel
theorem dX0_choose_17 : decode cX0_choose 17 = .ok (.iconst 1, 1) := by decide +kernel
theorem dX0_choose_18 : decode cX0_choose 18 = .ok (.iand, 1) := by decide +kernel
theorem dX0_choose_19 : decode cX0_choose 19 = .ok (.ifCond .eq 8, 3) := by decide +kernel
theorem dX0_choose_22 : decode cX0_choose 22 = .ok (.aload_n 0, 1) := by decide +kernel
theorem dX0_choose_23 : decode cX0_choose 23 = .ok (.iload_n 3, 1) := by decide +kernel
theorem dX0_choose_24 : decode cX0_choose 24 = .ok (.invokevirtual 45, 3) := by decide +kernel
theorem dX0_choose_27 : decode cX0_choose 27 = .ok (.iinc 3 1, 3) := by decide +kernel
theorem dX0_choose_30 : decode cX0_choose 30 = .ok (.goto (-24), 3) := by decide +kernel
theorem dX0_choose_33 : decode cX0_choose 33 = .ok (.return_, 1) := by decide +kernel
theorem dX0_chooseWorstFirst_0 : decode cX0_chooseWorstFirst 0 = .ok (.aload_n 0, 1) := by decide +kernel
theorem dX0_chooseWorstFirst_1 : decode cX0_chooseWorstFirst 1 = .ok (.invokevirtual 37, 3) := by decide +kernel
theorem dX0_chooseWorstFirst_4 : decode cX0_chooseWorstFirst 4 = .ok (.iconst 0, 1) := by decide +kernel
theorem dX0_chooseWorstFirst_5 : decode cX0_chooseWorstFirst 5 = .ok (.istore_n 2, 1) := by decide +kernel
theorem dX0_chooseWorstFirst_6 : decode cX0_chooseWorstFirst 6 = .ok (.iload_n 2, 1) := by decide +kernel
theorem dX0_chooseWorstFirst_7 : decode cX0_chooseWorstFirst 7 = .ok (.aload_n 1, 1) := by decide +kernel
theorem dX0_chooseWorstFirst_8 : decode cX0_chooseWorstFirst 8 = .ok (.getfield 40, 3) := by decide +kernel
theorem dX0_chooseWorstFirst_11 : decode cX0_chooseWorstFirst 11 = .ok (.if_icmp .ge 94, 3) := by decide +kernel
theorem dX0_chooseWorstFirst_14 : decode cX0_chooseWorstFirst 14 = .ok (.aload_n 0, 1) := by decide +kernel
theorem dX0_chooseWorstFirst_15 : decode cX0_chooseWorstFirst 15 = .ok (.getfield 27, 3) := by decide +kernel
theorem dX0_chooseWorstFirst_18 : decode cX0_chooseWorstFirst 18 = .ok (.iload_n 2, 1) := by decide +kernel
theorem dX0_chooseWorstFirst_19 : decode cX0_chooseWorstFirst 19 = .ok (.aload_n 1, 1) := by decide +kernel
theorem dX0_chooseWorstFirst_20 : decode cX0_chooseWorstFirst 20 = .ok (.getfield 49, 3) := by decide +kernel
theorem dX0_chooseWorstFirst_23 : decode cX0_chooseWorstFirst 23 = .ok (.iload_n 2, 1) := by decide +kernel
theorem dX0_chooseWorstFirst_24 : decode cX0_chooseWorstFirst 24 = .ok (.iaload, 1) := by decide +kernel
theorem dX0_chooseWorstFirst_25 : decode cX0_chooseWorstFirst 25 = .ok (.aload_n 1, 1) := by decide +kernel
theorem dX0_chooseWorstFirst_26 : decode cX0_chooseWorstFirst 26 = .ok (.getfield 52, 3) := by decide +kernel
theorem dX0_chooseWorstFirst_29 : decode cX0_chooseWorstFirst 29 = .ok (.iload_n 2, 1) := by decide +kernel
theorem dX0_chooseWorstFirst_30 : decode cX0_chooseWorstFirst 30 = .ok (.iaload, 1) := by decide +kernel
theorem dX0_chooseWorstFirst_31 : decode cX0_chooseWorstFirst 31 = .ok (.invokestatic 55, 3) := by decide +kernel
theorem dX0_chooseWorstFirst_34 : decode cX0_chooseWorstFirst 34 = .ok (.imul, 1) := by decide +kernel
theorem dX0_chooseWorstFirst_35 : decode cX0_chooseWorstFirst 35 = .ok (.iastore, 1) := by decide +kernel
theorem dX0_chooseWorstFirst_36 : decode cX0_chooseWorstFirst 36 = .ok (.aload_n 0, 1) := by decide +kernel
theorem dX0_chooseWorstFirst_37 : decode cX0_chooseWorstFirst 37 = .ok (.getfield 34, 3) := by decide +kernel
theorem dX0_chooseWorstFirst_40 : decode cX0_chooseWorstFirst 40 = .ok (.istore_n 3, 1) := by decide +kernel
theorem dX0_chooseWorstFirst_41 : decode cX0_chooseWorstFirst 41 = .ok (.aload_n 0, 1) := by decide +kernel
theorem dX0_chooseWorstFirst_42 : decode cX0_chooseWorstFirst 42 = .ok (.iload_n 2, 1) := by decide +kernel
theorem dX0_chooseWorstFirst_43 : decode cX0_chooseWorstFirst 43 = .ok (.invokevirtual 45, 3) := by decide +kernel
theorem dX0_chooseWorstFirst_46 : decode cX0_chooseWorstFirst 46 = .ok (.iload_n 3, 1) := by decide +kernel
theorem dX0_chooseWorstFirst_47 : decode cX0_chooseWorstFirst 47 = .ok (.ifCond .le 45, 3) := by decide +kernel
theorem dX0_chooseWorstFirst_50 : decode cX0_chooseWorstFirst 50 = .ok (.aload_n 0, 1) := by decide +kernel
theorem dX0_chooseWorstFirst_51 : decode cX0_chooseWorstFirst 51 = .ok (.getfield 27, 3) := by decide +kernel
theorem dX0_chooseWorstFirst_54 : decode cX0_chooseWorstFirst 54 = .ok (.aload_n 0, 1) := by decide +kernel
theorem dX0_chooseWorstFirst_55 : decode cX0_chooseWorstFirst 55 = .ok (.getfield 9, 3) := by decide +kernel
theorem dX0_chooseWorstFirst_58 : decode cX0_chooseWorstFirst 58 = .ok (.iload_n 3, 1) := by decide +kernel
theorem dX0_chooseWorstFirst_59 : decode cX0_chooseWorstFirst 59 = .ok (.iconst 1, 1) := by decide +kernel
theorem dX0_chooseWorstFirst_60 : decode cX0_chooseWorstFirst 60 = .ok (.isub, 1) := by decide +kernel
theorem dX0_chooseWorstFirst_61 : decode cX0_chooseWorstFirst 61 = .ok (.iaload, 1) := by decide +kernel
theorem dX0_chooseWorstFirst_62 : decode cX0_chooseWorstFirst 62 = .ok (.iaload, 1) := by decide +kernel
theorem dX0_chooseWorstFirst_63 : decode cX0_chooseWorstFirst 63 = .ok (.aload_n 0, 1) := by decide +kernel
theorem dX0_chooseWorstFirst_64 : decode cX0_chooseWorstFirst 64 = .ok (.getfield 27, 3) := by decide +kernel
theorem dX0_chooseWorstFirst_67 : decode cX0_chooseWorstFirst 67 = .ok (.iload_n 2, 1) := by decide +kernel
theorem dX0_chooseWorstFirst_68 : decode cX0_chooseWorstFirst 68 = .ok (.iaload, 1) := by decide +kernel
theorem dX0_chooseWorstFirst_69 : decode cX0_chooseWorstFirst 69 = .ok (.if_icmp .ge 23, 3) := by decide +kernel
theorem dX0_chooseWorstFirst_72 : decode cX0_chooseWorstFirst 72 = .ok (.aload_n 0, 1) := by decide +kernel
theorem dX0_chooseWorstFirst_73 : decode cX0_chooseWorstFirst 73 = .ok (.getfield 9, 3) := by decide +kernel
theorem dX0_chooseWorstFirst_76 : decode cX0_chooseWorstFirst 76 = .ok (.iload_n 3, 1) := by decide +kernel
theorem dX0_chooseWorstFirst_77 : decode cX0_chooseWorstFirst 77 = .ok (.aload_n 0, 1) := by decide +kernel
theorem dX0_chooseWorstFirst_78 : decode cX0_chooseWorstFirst 78 = .ok (.getfield 9, 3) := by decide +kernel
theorem dX0_chooseWorstFirst_81 : decode cX0_chooseWorstFirst 81 = .ok (.iload_n 3, 1) := by decide +kernel
theorem dX0_chooseWorstFirst_82 : decode cX0_chooseWorstFirst 82 = .ok (.iconst 1, 1) := by decide +kernel
theorem dX0_chooseWorstFirst_83 : decode cX0_chooseWorstFirst 83 = .ok (.isub, 1) := by decide +kernel
theorem dX0_chooseWorstFirst_84 : decode cX0_chooseWorstFirst 84 = .ok (.iaload, 1) := by decide +kernel
theorem dX0_chooseWorstFirst_85 : decode cX0_chooseWorstFirst 85 = .ok (.iastore, 1) := by decide +kernel
theorem dX0_chooseWorstFirst_86 : decode cX0_chooseWorstFirst 86 = .ok (.iinc 3 (-1), 3) := by decide +kernel
theorem dX0_chooseWorstFirst_89 : decode cX0_chooseWorstFirst 89 = .ok (.goto (-43), 3) := by decide +kernel
theorem dX0_chooseWorstFirst_92 : decode cX0_chooseWorstFirst 92 = .ok (.aload_n 0, 1) := by decide +kernel
theorem dX0_chooseWorstFirst_93 : decode cX0_chooseWorstFirst 93 = .ok (.getfield 9, 3) := by decide +kernel
theorem dX0_chooseWorstFirst_96 : decode cX0_chooseWorstFirst 96 = .ok (.iload_n 3, 1) := by decide +kernel
theorem dX0_chooseWorstFirst_97 : decode cX0_chooseWorstFirst 97 = .ok (.iload_n 2, 1) := by decide +kernel
theorem dX0_chooseWorstFirst_98 : decode cX0_chooseWorstFirst 98 = .ok (.iastore, 1) := by decide +kernel
theorem dX0_chooseWorstFirst_99 : decode cX0_chooseWorstFirst 99 = .ok (.iinc 2 1, 3) := by decide +kernel
theorem dX0_chooseWorstFirst_102 : decode cX0_chooseWorstFirst 102 = .ok (.goto (-96), 3) := by decide +kernel
theorem dX0_chooseWorstFirst_105 : decode cX0_chooseWorstFirst 105 = .ok (.return_, 1) := by decide +kernel
theorem dX0_run_0 : decode cX0_run 0 = .ok (.aload_n 0, 1) := by decide +kernel
theorem dX0_run_1 : decode cX0_run 1 = .ok (.aload_n 1, 1) := by decide +kernel
theorem dX0_run_2 : decode cX0_run 2 = .ok (.invokevirtual 61, 3) := by decide +kernel
theorem dX0_run_5 : decode cX0_run 5 = .ok (.aload_n 1, 1) := by decide +kernel
theorem dX0_run_6 : decode cX0_run 6 = .ok (.getfield 49, 3) := by decide +kernel
theorem dX0_run_9 : decode cX0_run 9 = .ok (.iconst 0, 1) := by decide +kernel
theorem dX0_run_10 : decode cX0_run 10 = .ok (.aload_n 0, 1) := by decide +kernel
theorem dX0_run_11 : decode cX0_run 11 = .ok (.getfield 21, 3) := by decide +kernel
theorem dX0_run_14 : decode cX0_run 14 = .ok (.iconst 0, 1) := by decide +kernel
theorem dX0_run_15 : decode cX0_run 15 = .ok (.aaload, 1) := by decide +kernel
theorem dX0_run_16 : decode cX0_run 16 = .ok (.iconst 0, 1) := by decide +kernel
theorem dX0_run_17 : decode cX0_run 17 = .ok (.bipush 7, 2) := by decide +kernel
theorem dX0_run_19 : decode cX0_run 19 = .ok (.invokestatic 65, 3) := by decide +kernel
theorem dX0_run_22 : decode cX0_run 22 = .ok (.iconst 0, 1) := by decide +kernel
theorem dX0_run_23 : decode cX0_run 23 = .ok (.istore_n 2, 1) := by decide +kernel
theorem dX0_run_24 : decode cX0_run 24 = .ok (.iload_n 2, 1) := by decide +kernel
theorem dX0_run_25 : decode cX0_run 25 = .ok (.aload_n 0, 1) := by decide +kernel
theorem dX0_run_26 : decode cX0_run 26 = .ok (.getfield 34, 3) := by decide +kernel
theorem dX0_run_29 : decode cX0_run 29 = .ok (.if_icmp .ge 14, 3) := by decide +kernel
theorem dX0_run_32 : decode cX0_run 32 = .ok (.aload_n 0, 1) := by decide +kernel
theorem dX0_run_33 : decode cX0_run 33 = .ok (.iload_n 2, 1) := by decide +kernel
theorem dX0_run_34 : decode cX0_run 34 = .ok (.invokevirtual 71, 3) := by decide +kernel
theorem dX0_run_37 : decode cX0_run 37 = .ok (.iinc 2 1, 3) := by decide +kernel
theorem dX0_run_40 : decode cX0_run 40 = .ok (.goto (-16), 3) := by decide +kernel
theorem dX0_run_43 : decode cX0_run 43 = .ok (.return_, 1) := by decide +kernel
theorem dX0_runFrom_0 : decode cX0_runFrom 0 = .ok (.iconst 0, 1) := by decide +kernel
theorem dX0_runFrom_1 : decode cX0_runFrom 1 = .ok (.iload_n 1, 1) := by decide +kernel
theorem dX0_runFrom_2 : decode cX0_runFrom 2 = .ok (.invokestatic 74, 3) := by decide +kernel
theorem dX0_runFrom_5 : decode cX0_runFrom 5 = .ok (.istore_n 2, 1) := by decide +kernel
theorem dX0_runFrom_6 : decode cX0_runFrom 6 = .ok (.iload_n 2, 1) := by decide +kernel
theorem dX0_runFrom_7 : decode cX0_runFrom 7 = .ok (.aload_n 0, 1) := by decide +kernel
theorem dX0_runFrom_8 : decode cX0_runFrom 8 = .ok (.getfield 34, 3) := by decide +kernel
theorem dX0_runFrom_11 : decode cX0_runFrom 11 = .ok (.if_icmp .ge 14, 3) := by decide +kernel
theorem dX0_runFrom_14 : decode cX0_runFrom 14 = .ok (.aload_n 0, 1) := by decide +kernel
theorem dX0_runFrom_15 : decode cX0_runFrom 15 = .ok (.iload_n 2, 1) := by decide +kernel
theorem dX0_runFrom_16 : decode cX0_runFrom 16 = .ok (.invokevirtual 71, 3) := by decide +kernel
theorem dX0_runFrom_19 : decode cX0_runFrom 19 = .ok (.iinc 2 1, 3) := by decide +kernel
theorem dX0_runFrom_22 : decode cX0_runFrom 22 = .ok (.goto (-16), 3) := by decide +kernel
theorem dX0_runFrom_25 : decode cX0_runFrom 25 = .ok (.return_, 1) := by decide +kernel
theorem dX0_begin_0 : decode cX0_begin 0 = .ok (.aload_n 0, 1) := by decide +kernel
theorem dX0_begin_1 : decode cX0_begin 1 = .ok (.aload_n 1, 1) := by decide +kernel
theorem dX0_begin_2 : decode cX0_begin 2 = .ok (.putfield 80, 3) := by decide +kernel
theorem dX0_begin_5 : decode cX0_begin 5 = .ok (.aload_n 0, 1) := by decide +kernel
theorem dX0_begin_6 : decode cX0_begin 6 = .ok (.iconst 0, 1) := by decide +kernel
theorem dX0_begin_7 : decode cX0_begin 7 = .ok (.putfield 84, 3) := by decide +kernel
theorem dX0_begin_10 : decode cX0_begin 10 = .ok (.aload_n 0, 1) := by decide +kernel
theorem dX0_begin_11 : decode cX0_begin 11 = .ok (.iconst 0, 1) := by decide +kernel
theorem dX0_begin_12 : decode cX0_begin 12 = .ok (.putfield 87, 3) := by decide +kernel
theorem dX0_begin_15 : decode cX0_begin 15 = .ok (.aload_n 0, 1) := by decide +kernel
theorem dX0_begin_16 : decode cX0_begin 16 = .ok (.getfield 30, 3) := by decide +kernel
theorem dX0_begin_19 : decode cX0_begin 19 = .ok (.getfield 90, 3) := by decide +kernel
theorem dX0_begin_22 : decode cX0_begin 22 = .ok (.iconst 2, 1) := by decide +kernel
theorem dX0_begin_23 : decode cX0_begin 23 = .ok (.aload_n 1, 1) := by decide +kernel
theorem dX0_begin_24 : decode cX0_begin 24 = .ok (.getfield 95, 3) := by decide +kernel
theorem dX0_begin_27 : decode cX0_begin 27 = .ok (.iastore, 1) := by decide +kernel
theorem dX0_begin_28 : decode cX0_begin 28 = .ok (.return_, 1) := by decide +kernel
theorem dX0_ironOne_0 : decode cX0_ironOne 0 = .ok (.aload_n 0, 1) := by decide +kernel
theorem dX0_ironOne_1 : decode cX0_ironOne 1 = .ok (.getfield 9, 3) := by decide +kernel
theorem dX0_ironOne_4 : decode cX0_ironOne 4 = .ok (.iload_n 1, 1) := by decide +kernel
theorem dX0_ironOne_5 : decode cX0_ironOne 5 = .ok (.iaload, 1) := by decide +kernel
theorem dX0_ironOne_6 : decode cX0_ironOne 6 = .ok (.istore_n 2, 1) := by decide +kernel
theorem dX0_ironOne_7 : decode cX0_ironOne 7 = .ok (.aload_n 0, 1) := by decide +kernel
theorem dX0_ironOne_8 : decode cX0_ironOne 8 = .ok (.getfield 21, 3) := by decide +kernel
theorem dX0_ironOne_11 : decode cX0_ironOne 11 = .ok (.iload_n 1, 1) := by decide +kernel
theorem dX0_ironOne_12 : decode cX0_ironOne 12 = .ok (.iconst 1, 1) := by decide +kernel
theorem dX0_ironOne_13 : decode cX0_ironOne 13 = .ok (.iadd, 1) := by decide +kernel
theorem dX0_ironOne_14 : decode cX0_ironOne 14 = .ok (.aaload, 1) := by decide +kernel
theorem dX0_ironOne_15 : decode cX0_ironOne 15 = .ok (.astore_n 3, 1) := by decide +kernel
theorem dX0_ironOne_16 : decode cX0_ironOne 16 = .ok (.aload_n 0, 1) := by decide +kernel
theorem dX0_ironOne_17 : decode cX0_ironOne 17 = .ok (.getfield 21, 3) := by decide +kernel
theorem dX0_ironOne_20 : decode cX0_ironOne 20 = .ok (.iload_n 1, 1) := by decide +kernel
theorem dX0_ironOne_21 : decode cX0_ironOne 21 = .ok (.aaload, 1) := by decide +kernel
theorem dX0_ironOne_22 : decode cX0_ironOne 22 = .ok (.iconst 0, 1) := by decide +kernel
theorem dX0_ironOne_23 : decode cX0_ironOne 23 = .ok (.aload_n 3, 1) := by decide +kernel
theorem dX0_ironOne_24 : decode cX0_ironOne 24 = .ok (.iconst 0, 1) := by decide +kernel
theorem dX0_ironOne_25 : decode cX0_ironOne 25 = .ok (.bipush 7, 2) := by decide +kernel
theorem dX0_ironOne_27 : decode cX0_ironOne 27 = .ok (.invokestatic 65, 3) := by decide +kernel
theorem dX0_ironOne_30 : decode cX0_ironOne 30 = .ok (.aload_n 0, 1) := by decide +kernel
theorem dX0_ironOne_31 : decode cX0_ironOne 31 = .ok (.aload_n 0, 1) := by decide +kernel
theorem dX0_ironOne_32 : decode cX0_ironOne 32 = .ok (.getfield 24, 3) := by decide +kernel
theorem dX0_ironOne_35 : decode cX0_ironOne 35 = .ok (.iload_n 1, 1) := by decide +kernel
theorem dX0_ironOne_36 : decode cX0_ironOne 36 = .ok (.iaload, 1) := by decide +kernel
theorem dX0_ironOne_37 : decode cX0_ironOne 37 = .ok (.putfield 84, 3) := by decide +kernel
theorem dX0_ironOne_40 : decode cX0_ironOne 40 = .ok (.aload_n 0, 1) := by decide +kernel
theorem dX0_ironOne_41 : decode cX0_ironOne 41 = .ok (.aload_n 0, 1) := by decide +kernel
theorem dX0_ironOne_42 : decode cX0_ironOne 42 = .ok (.getfield 15, 3) := by decide +kernel
theorem dX0_ironOne_45 : decode cX0_ironOne 45 = .ok (.ifCond .lt 23, 3) := by decide +kernel
theorem dX0_ironOne_48 : decode cX0_ironOne 48 = .ok (.aload_n 0, 1) := by decide +kernel
theorem dX0_ironOne_49 : decode cX0_ironOne 49 = .ok (.getfield 15, 3) := by decide +kernel
theorem dX0_ironOne_52 : decode cX0_ironOne 52 = .ok (.iload_n 1, 1) := by decide +kernel
theorem dX0_ironOne_53 : decode cX0_ironOne 53 = .ok (.if_icmp .gt 15, 3) := by decide +kernel
theorem dX0_ironOne_56 : decode cX0_ironOne 56 = .ok (.aload_n 0, 1) := by decide +kernel
theorem dX0_ironOne_57 : decode cX0_ironOne 57 = .ok (.getfield 24, 3) := by decide +kernel
theorem dX0_ironOne_60 : decode cX0_ironOne 60 = .ok (.aload_n 0, 1) := by decide +kernel
theorem dX0_ironOne_61 : decode cX0_ironOne 61 = .ok (.getfield 15, 3) := by decide +kernel
theorem dX0_ironOne_64 : decode cX0_ironOne 64 = .ok (.iaload, 1) := by decide +kernel
theorem dX0_ironOne_65 : decode cX0_ironOne 65 = .ok (.goto 4, 3) := by decide +kernel
theorem dX0_ironOne_68 : decode cX0_ironOne 68 = .ok (.iconst 0, 1) := by decide +kernel
theorem dX0_ironOne_69 : decode cX0_ironOne 69 = .ok (.putfield 87, 3) := by decide +kernel
theorem dX0_ironOne_72 : decode cX0_ironOne 72 = .ok (.aload_n 0, 1) := by decide +kernel
theorem dX0_ironOne_73 : decode cX0_ironOne 73 = .ok (.iload_n 2, 1) := by decide +kernel
theorem dX0_ironOne_74 : decode cX0_ironOne 74 = .ok (.aload_n 3, 1) := by decide +kernel
theorem dX0_ironOne_75 : decode cX0_ironOne 75 = .ok (.iload_n 2, 1) := by decide +kernel
theorem dX0_ironOne_76 : decode cX0_ironOne 76 = .ok (.iaload, 1) := by decide +kernel
theorem dX0_ironOne_77 : decode cX0_ironOne 77 = .ok (.invokevirtual 98, 3) := by decide +kernel
theorem dX0_ironOne_80 : decode cX0_ironOne 80 = .ok (.istore 4, 2) := by decide +kernel
theorem dX0_ironOne_82 : decode cX0_ironOne 82 = .ok (.aload_n 3, 1) := by decide +kernel
theorem dX0_ironOne_83 : decode cX0_ironOne 83 = .ok (.iload_n 2, 1) := by decide +kernel
theorem dX0_ironOne_84 : decode cX0_ironOne 84 = .ok (.aload_n 0, 1) := by decide +kernel
theorem dX0_ironOne_85 : decode cX0_ironOne 85 = .ok (.iload_n 2, 1) := by decide +kernel
theorem dX0_ironOne_86 : decode cX0_ironOne 86 = .ok (.aload_n 3, 1) := by decide +kernel
theorem dX0_ironOne_87 : decode cX0_ironOne 87 = .ok (.iload_n 2, 1) := by decide +kernel
theorem dX0_ironOne_88 : decode cX0_ironOne 88 = .ok (.iaload, 1) := by decide +kernel
theorem dX0_ironOne_89 : decode cX0_ironOne 89 = .ok (.invokevirtual 101, 3) := by decide +kernel
theorem dX0_ironOne_92 : decode cX0_ironOne 92 = .ok (.iastore, 1) := by decide +kernel
theorem dX0_ironOne_93 : decode cX0_ironOne 93 = .ok (.aload_n 0, 1) := by decide +kernel
theorem dX0_ironOne_94 : decode cX0_ironOne 94 = .ok (.dup, 1) := by decide +kernel
theorem dX0_ironOne_95 : decode cX0_ironOne 95 = .ok (.getfield 84, 3) := by decide +kernel
theorem dX0_ironOne_98 : decode cX0_ironOne 98 = .ok (.iload 4, 2) := by decide +kernel
theorem dX0_ironOne_100 : decode cX0_ironOne 100 = .ok (.iadd, 1) := by decide +kernel
theorem dX0_ironOne_101 : decode cX0_ironOne 101 = .ok (.putfield 84, 3) := by decide +kernel
theorem dX0_ironOne_104 : decode cX0_ironOne 104 = .ok (.aload_n 0, 1) := by decide +kernel
theorem dX0_ironOne_105 : decode cX0_ironOne 105 = .ok (.getfield 24, 3) := by decide +kernel
theorem dX0_ironOne_108 : decode cX0_ironOne 108 = .ok (.iload_n 1, 1) := by decide +kernel
theorem dX0_ironOne_109 : decode cX0_ironOne 109 = .ok (.iconst 1, 1) := by decide +kernel
theorem dX0_ironOne_110 : decode cX0_ironOne 110 = .ok (.iadd, 1) := by decide +kernel
theorem dX0_ironOne_111 : decode cX0_ironOne 111 = .ok (.aload_n 0, 1) := by decide +kernel
theorem dX0_ironOne_112 : decode cX0_ironOne 112 = .ok (.getfield 84, 3) := by decide +kernel
theorem dX0_ironOne_115 : decode cX0_ironOne 115 = .ok (.iastore, 1) := by decide +kernel
theorem dX0_ironOne_116 : decode cX0_ironOne 116 = .ok (.aload_n 0, 1) := by decide +kernel
theorem dX0_ironOne_117 : decode cX0_ironOne 117 = .ok (.getfield 80, 3) := by decide +kernel
theorem dX0_ironOne_120 : decode cX0_ironOne 120 = .ok (.getfield 104, 3) := by decide +kernel
theorem dX0_ironOne_123 : decode cX0_ironOne 123 = .ok (.iload_n 2, 1) := by decide +kernel
theorem dX0_ironOne_124 : decode cX0_ironOne 124 = .ok (.iaload, 1) := by decide +kernel
theorem dX0_ironOne_125 : decode cX0_ironOne 125 = .ok (.iconst 1, 1) := by decide +kernel
theorem dX0_ironOne_126 : decode cX0_ironOne 126 = .ok (.iload_n 2, 1) := by decide +kernel
theorem dX0_ironOne_127 : decode cX0_ironOne 127 = .ok (.ishl, 1) := by decide +kernel
theorem dX0_ironOne_128 : decode cX0_ironOne 128 = .ok (.iconst (-1), 1) := by decide +kernel
theorem dX0_ironOne_129 : decode cX0_ironOne 129 = .ok (.ixor, 1) := by decide +kernel
theorem dX0_ironOne_130 : decode cX0_ironOne 130 = .ok (.iand, 1) := by decide +kernel
theorem dX0_ironOne_131 : decode cX0_ironOne 131 = .ok (.istore 5, 2) := by decide +kernel
theorem dX0_ironOne_133 : decode cX0_ironOne 133 = .ok (.iconst 0, 1) := by decide +kernel
theorem dX0_ironOne_134 : decode cX0_ironOne 134 = .ok (.istore 6, 2) := by decide +kernel
theorem dX0_ironOne_136 : decode cX0_ironOne 136 = .ok (.iload 6, 2) := by decide +kernel
theorem dX0_ironOne_138 : decode cX0_ironOne 138 = .ok (.aload_n 0, 1) := by decide +kernel
theorem dX0_ironOne_139 : decode cX0_ironOne 139 = .ok (.getfield 80, 3) := by decide +kernel
theorem dX0_ironOne_142 : decode cX0_ironOne 142 = .ok (.getfield 40, 3) := by decide +kernel
theorem dX0_ironOne_145 : decode cX0_ironOne 145 = .ok (.if_icmp .ge 43, 3) := by decide +kernel
theorem dX0_ironOne_148 : decode cX0_ironOne 148 = .ok (.iload 5, 2) := by decide +kernel
theorem dX0_ironOne_150 : decode cX0_ironOne 150 = .ok (.iload 6, 2) := by decide +kernel
theorem dX0_ironOne_152 : decode cX0_ironOne 152 = .ok (.ishr, 1) := by decide +kernel
theorem dX0_ironOne_153 : decode cX0_ironOne 153 = .ok (.iconst 1, 1) := by decide +kernel
theorem dX0_ironOne_154 : decode cX0_ironOne 154 = .ok (.iand, 1) := by decide +kernel
theorem dX0_ironOne_155 : decode cX0_ironOne 155 = .ok (.ifCond .eq 27, 3) := by decide +kernel
theorem dX0_ironOne_158 : decode cX0_ironOne 158 = .ok (.aload_n 3, 1) := by decide +kernel
theorem dX0_ironOne_159 : decode cX0_ironOne 159 = .ok (.iload 6, 2) := by decide +kernel
theorem dX0_ironOne_161 : decode cX0_ironOne 161 = .ok (.bipush 99, 2) := by decide +kernel
theorem dX0_ironOne_163 : decode cX0_ironOne 163 = .ok (.aload_n 3, 1) := by decide +kernel
theorem dX0_ironOne_164 : decode cX0_ironOne 164 = .ok (.iload 6, 2) := by decide +kernel
theorem dX0_ironOne_166 : decode cX0_ironOne 166 = .ok (.iaload, 1) := by decide +kernel
theorem dX0_ironOne_167 : decode cX0_ironOne 167 = .ok (.aload_n 0, 1) := by decide +kernel
theorem dX0_ironOne_168 : decode cX0_ironOne 168 = .ok (.iload 6, 2) := by decide +kernel
theorem dX0_ironOne_170 : decode cX0_ironOne 170 = .ok (.aload_n 3, 1) := by decide +kernel
theorem dX0_ironOne_171 : decode cX0_ironOne 171 = .ok (.iload 6, 2) := by decide +kernel
theorem dX0_ironOne_173 : decode cX0_ironOne 173 = .ok (.iaload, 1) := by decide +kernel
theorem dX0_ironOne_174 : decode cX0_ironOne 174 = .ok (.invokevirtual 107, 3) := by decide +kernel
theorem dX0_ironOne_177 : decode cX0_ironOne 177 = .ok (.iadd, 1) := by decide +kernel
theorem dX0_ironOne_178 : decode cX0_ironOne 178 = .ok (.invokestatic 110, 3) := by decide +kernel
theorem dX0_ironOne_181 : decode cX0_ironOne 181 = .ok (.iastore, 1) := by decide +kernel
theorem dX0_ironOne_182 : decode cX0_ironOne 182 = .ok (.iinc 6 1, 3) := by decide +kernel
theorem dX0_ironOne_185 : decode cX0_ironOne 185 = .ok (.goto (-49), 3) := by decide +kernel
theorem dX0_ironOne_188 : decode cX0_ironOne 188 = .ok (.return_, 1) := by decide +kernel
theorem dX0_keeps_0 : decode cX0_keeps 0 = .ok (.aload_n 0, 1) := by decide +kernel
theorem dX0_keeps_1 : decode cX0_keeps 1 = .ok (.iload_n 1, 1) := by decide +kernel
theorem dX0_keeps_2 : decode cX0_keeps 2 = .ok (.iload_n 2, 1) := by decide +kernel
theorem dX0_keeps_3 : decode cX0_keeps 3 = .ok (.invokevirtual 113, 3) := by decide +kernel
theorem dX0_keeps_6 : decode cX0_keeps 6 = .ok (.aload_n 0, 1) := by decide +kernel
theorem dX0_keeps_7 : decode cX0_keeps 7 = .ok (.getfield 30, 3) := by decide +kernel
theorem dX0_keeps_10 : decode cX0_keeps 10 = .ok (.aload_n 0, 1) := by decide +kernel
theorem dX0_keeps_11 : decode cX0_keeps 11 = .ok (.getfield 80, 3) := by decide +kernel
theorem dX0_keeps_14 : decode cX0_keeps 14 = .ok (.getfield 117, 3) := by decide +kernel
theorem dX0_keeps_17 : decode cX0_keeps 17 = .ok (.iconst 0, 1) := by decide +kernel
theorem dX0_keeps_18 : decode cX0_keeps 18 = .ok (.invokevirtual 120, 3) := by decide +kernel
theorem dX0_keeps_21 : decode cX0_keeps 21 = .ok (.istore_n 3, 1) := by decide +kernel
theorem dX0_keeps_22 : decode cX0_keeps 22 = .ok (.aload_n 0, 1) := by decide +kernel
theorem dX0_keeps_23 : decode cX0_keeps 23 = .ok (.getfield 80, 3) := by decide +kernel
theorem dX0_keeps_26 : decode cX0_keeps 26 = .ok (.getfield 52, 3) := by decide +kernel
theorem dX0_keeps_29 : decode cX0_keeps 29 = .ok (.iload_n 1, 1) := by decide +kernel
theorem dX0_keeps_30 : decode cX0_keeps 30 = .ok (.iaload, 1) := by decide +kernel
theorem dX0_keeps_31 : decode cX0_keeps 31 = .ok (.iload_n 3, 1) := by decide +kernel
theorem dX0_keeps_32 : decode cX0_keeps 32 = .ok (.iload_n 2, 1) := by decide +kernel
theorem dX0_keeps_33 : decode cX0_keeps 33 = .ok (.aload_n 0, 1) := by decide +kernel
theorem dX0_keeps_34 : decode cX0_keeps 34 = .ok (.getfield 80, 3) := by decide +kernel
theorem dX0_keeps_37 : decode cX0_keeps 37 = .ok (.getfield 123, 3) := by decide +kernel
theorem dX0_keeps_40 : decode cX0_keeps 40 = .ok (.iload_n 1, 1) := by decide +kernel
theorem dX0_keeps_41 : decode cX0_keeps 41 = .ok (.iaload, 1) := by decide +kernel
theorem dX0_keeps_42 : decode cX0_keeps 42 = .ok (.invokestatic 126, 3) := by decide +kernel
theorem dX0_keeps_45 : decode cX0_keeps 45 = .ok (.ireturn, 1) := by decide +kernel
theorem dX0_takes_0 : decode cX0_takes 0 = .ok (.aload_n 0, 1) := by decide +kernel
theorem dX0_takes_1 : decode cX0_takes 1 = .ok (.iload_n 1, 1) := by decide +kernel
theorem dX0_takes_2 : decode cX0_takes 2 = .ok (.iload_n 2, 1) := by decide +kernel
theorem dX0_takes_3 : decode cX0_takes 3 = .ok (.invokevirtual 113, 3) := by decide +kernel
theorem dX0_takes_6 : decode cX0_takes 6 = .ok (.aload_n 0, 1) := by decide +kernel
theorem dX0_takes_7 : decode cX0_takes 7 = .ok (.getfield 30, 3) := by decide +kernel
theorem dX0_takes_10 : decode cX0_takes 10 = .ok (.aload_n 0, 1) := by decide +kernel
theorem dX0_takes_11 : decode cX0_takes 11 = .ok (.getfield 80, 3) := by decide +kernel
theorem dX0_takes_14 : decode cX0_takes 14 = .ok (.getfield 117, 3) := by decide +kernel
theorem dX0_takes_17 : decode cX0_takes 17 = .ok (.iconst 1, 1) := by decide +kernel
theorem dX0_takes_18 : decode cX0_takes 18 = .ok (.invokevirtual 120, 3) := by decide +kernel
theorem dX0_takes_21 : decode cX0_takes 21 = .ok (.istore_n 3, 1) := by decide +kernel
theorem dX0_takes_22 : decode cX0_takes 22 = .ok (.aload_n 0, 1) := by decide +kernel
theorem dX0_takes_23 : decode cX0_takes 23 = .ok (.getfield 80, 3) := by decide +kernel
theorem dX0_takes_26 : decode cX0_takes 26 = .ok (.getfield 52, 3) := by decide +kernel
theorem dX0_takes_29 : decode cX0_takes 29 = .ok (.iload_n 1, 1) := by decide +kernel
theorem dX0_takes_30 : decode cX0_takes 30 = .ok (.iaload, 1) := by decide +kernel
theorem dX0_takes_31 : decode cX0_takes 31 = .ok (.iload_n 3, 1) := by decide +kernel
theorem dX0_takes_32 : decode cX0_takes 32 = .ok (.aload_n 0, 1) := by decide +kernel
theorem dX0_takes_33 : decode cX0_takes 33 = .ok (.getfield 80, 3) := by decide +kernel
theorem dX0_takes_36 : decode cX0_takes 36 = .ok (.getfield 123, 3) := by decide +kernel
theorem dX0_takes_39 : decode cX0_takes 39 = .ok (.iload_n 1, 1) := by decide +kernel
theorem dX0_takes_40 : decode cX0_takes 40 = .ok (.iaload, 1) := by decide +kernel
theorem dX0_takes_41 : decode cX0_takes 41 = .ok (.invokestatic 129, 3) := by decide +kernel
theorem dX0_takes_44 : decode cX0_takes 44 = .ok (.ireturn, 1) := by decide +kernel
theorem dX0_crumples_0 : decode cX0_crumples 0 = .ok (.aload_n 0, 1) := by decide +kernel
theorem dX0_crumples_1 : decode cX0_crumples 1 = .ok (.iload_n 1, 1) := by decide +kernel
theorem dX0_crumples_2 : decode cX0_crumples 2 = .ok (.iload_n 2, 1) := by decide +kernel
theorem dX0_crumples_3 : decode cX0_crumples 3 = .ok (.invokevirtual 113, 3) := by decide +kernel
theorem dX0_crumples_6 : decode cX0_crumples 6 = .ok (.aload_n 0, 1) := by decide +kernel
theorem dX0_crumples_7 : decode cX0_crumples 7 = .ok (.getfield 30, 3) := by decide +kernel
theorem dX0_crumples_10 : decode cX0_crumples 10 = .ok (.aload_n 0, 1) := by decide +kernel
theorem dX0_crumples_11 : decode cX0_crumples 11 = .ok (.getfield 80, 3) := by decide +kernel
theorem dX0_crumples_14 : decode cX0_crumples 14 = .ok (.getfield 117, 3) := by decide +kernel
theorem dX0_crumples_17 : decode cX0_crumples 17 = .ok (.iconst 2, 1) := by decide +kernel
theorem dX0_crumples_18 : decode cX0_crumples 18 = .ok (.invokevirtual 120, 3) := by decide +kernel
theorem dX0_crumples_21 : decode cX0_crumples 21 = .ok (.istore_n 3, 1) := by decide +kernel
theorem dX0_crumples_22 : decode cX0_crumples 22 = .ok (.aload_n 0, 1) := by decide +kernel
theorem dX0_crumples_23 : decode cX0_crumples 23 = .ok (.getfield 80, 3) := by decide +kernel
theorem dX0_crumples_26 : decode cX0_crumples 26 = .ok (.getfield 52, 3) := by decide +kernel
theorem dX0_crumples_29 : decode cX0_crumples 29 = .ok (.iload_n 1, 1) := by decide +kernel
theorem dX0_crumples_30 : decode cX0_crumples 30 = .ok (.iaload, 1) := by decide +kernel
theorem dX0_crumples_31 : decode cX0_crumples 31 = .ok (.iload_n 3, 1) := by decide +kernel
theorem dX0_crumples_32 : decode cX0_crumples 32 = .ok (.invokestatic 132, 3) := by decide +kernel
theorem dX0_crumples_35 : decode cX0_crumples 35 = .ok (.ireturn, 1) := by decide +kernel
theorem dX0_nameAll_0 : decode cX0_nameAll 0 = .ok (.aload_n 0, 1) := by decide +kernel
theorem dX0_nameAll_1 : decode cX0_nameAll 1 = .ok (.getfield 30, 3) := by decide +kernel
theorem dX0_nameAll_4 : decode cX0_nameAll 4 = .ok (.getfield 90, 3) := by decide +kernel
theorem dX0_nameAll_7 : decode cX0_nameAll 7 = .ok (.astore_n 3, 1) := by decide +kernel
theorem dX0_nameAll_8 : decode cX0_nameAll 8 = .ok (.aload_n 3, 1) := by decide +kernel
theorem dX0_nameAll_9 : decode cX0_nameAll 9 = .ok (.iconst 0, 1) := by decide +kernel
theorem dX0_nameAll_10 : decode cX0_nameAll 10 = .ok (.aload_n 0, 1) := by decide +kernel
theorem dX0_nameAll_11 : decode cX0_nameAll 11 = .ok (.getfield 84, 3) := by decide +kernel
theorem dX0_nameAll_14 : decode cX0_nameAll 14 = .ok (.iastore, 1) := by decide +kernel
theorem dX0_nameAll_15 : decode cX0_nameAll 15 = .ok (.aload_n 3, 1) := by decide +kernel
theorem dX0_nameAll_16 : decode cX0_nameAll 16 = .ok (.iconst 1, 1) := by decide +kernel
theorem dX0_nameAll_17 : decode cX0_nameAll 17 = .ok (.iconst 0, 1) := by decide +kernel
theorem dX0_nameAll_18 : decode cX0_nameAll 18 = .ok (.aload_n 0, 1) := by decide +kernel
theorem dX0_nameAll_19 : decode cX0_nameAll 19 = .ok (.getfield 80, 3) := by decide +kernel
theorem dX0_nameAll_22 : decode cX0_nameAll 22 = .ok (.getfield 133, 3) := by decide +kernel
theorem dX0_nameAll_25 : decode cX0_nameAll 25 = .ok (.aload_n 0, 1) := by decide +kernel
theorem dX0_nameAll_26 : decode cX0_nameAll 26 = .ok (.getfield 84, 3) := by decide +kernel
theorem dX0_nameAll_29 : decode cX0_nameAll 29 = .ok (.aload_n 0, 1) := by decide +kernel
theorem dX0_nameAll_30 : decode cX0_nameAll 30 = .ok (.getfield 87, 3) := by decide +kernel
theorem dX0_nameAll_33 : decode cX0_nameAll 33 = .ok (.isub, 1) := by decide +kernel
theorem dX0_nameAll_34 : decode cX0_nameAll 34 = .ok (.isub, 1) := by decide +kernel
theorem dX0_nameAll_35 : decode cX0_nameAll 35 = .ok (.invokestatic 74, 3) := by decide +kernel
theorem dX0_nameAll_38 : decode cX0_nameAll 38 = .ok (.iastore, 1) := by decide +kernel
theorem dX0_nameAll_39 : decode cX0_nameAll 39 = .ok (.aload_n 3, 1) := by decide +kernel
theorem dX0_nameAll_40 : decode cX0_nameAll 40 = .ok (.iconst 3, 1) := by decide +kernel
theorem dX0_nameAll_41 : decode cX0_nameAll 41 = .ok (.aload_n 0, 1) := by decide +kernel
theorem dX0_nameAll_42 : decode cX0_nameAll 42 = .ok (.getfield 80, 3) := by decide +kernel
theorem dX0_nameAll_45 : decode cX0_nameAll 45 = .ok (.getfield 123, 3) := by decide +kernel
theorem dX0_nameAll_48 : decode cX0_nameAll 48 = .ok (.iload_n 1, 1) := by decide +kernel
theorem dX0_nameAll_49 : decode cX0_nameAll 49 = .ok (.iaload, 1) := by decide +kernel
theorem dX0_nameAll_50 : decode cX0_nameAll 50 = .ok (.iastore, 1) := by decide +kernel
theorem dX0_nameAll_51 : decode cX0_nameAll 51 = .ok (.aload_n 3, 1) := by decide +kernel
theorem dX0_nameAll_52 : decode cX0_nameAll 52 = .ok (.iconst 4, 1) := by decide +kernel
theorem dX0_nameAll_53 : decode cX0_nameAll 53 = .ok (.iload_n 2, 1) := by decide +kernel
theorem dX0_nameAll_54 : decode cX0_nameAll 54 = .ok (.iastore, 1) := by decide +kernel
theorem dX0_nameAll_55 : decode cX0_nameAll 55 = .ok (.aload_n 3, 1) := by decide +kernel
theorem dX0_nameAll_56 : decode cX0_nameAll 56 = .ok (.iconst 5, 1) := by decide +kernel
theorem dX0_nameAll_57 : decode cX0_nameAll 57 = .ok (.iload_n 1, 1) := by decide +kernel
theorem dX0_nameAll_58 : decode cX0_nameAll 58 = .ok (.iastore, 1) := by decide +kernel
theorem dX0_nameAll_59 : decode cX0_nameAll 59 = .ok (.return_, 1) := by decide +kernel
theorem dX0_last_0 : decode cX0_last 0 = .ok (.aload_n 0, 1) := by decide +kernel
theorem dX0_last_1 : decode cX0_last 1 = .ok (.getfield 21, 3) := by decide +kernel
theorem dX0_last_4 : decode cX0_last 4 = .ok (.aload_n 0, 1) := by decide +kernel
theorem dX0_last_5 : decode cX0_last 5 = .ok (.getfield 34, 3) := by decide +kernel
theorem dX0_last_8 : decode cX0_last 8 = .ok (.aaload, 1) := by decide +kernel
theorem dX0_last_9 : decode cX0_last 9 = .ok (.areturn, 1) := by decide +kernel
theorem dX0_creased_0 : decode cX0_creased 0 = .ok (.aload_n 1, 1) := by decide +kernel
theorem dX0_creased_1 : decode cX0_creased 1 = .ok (.aload_n 0, 1) := by decide +kernel
theorem dX0_creased_2 : decode cX0_creased 2 = .ok (.getfield 21, 3) := by decide +kernel
theorem dX0_creased_5 : decode cX0_creased 5 = .ok (.aload_n 0, 1) := by decide +kernel
theorem dX0_creased_6 : decode cX0_creased 6 = .ok (.getfield 34, 3) := by decide +kernel
theorem dX0_creased_9 : decode cX0_creased 9 = .ok (.aaload, 1) := by decide +kernel
theorem dX0_creased_10 : decode cX0_creased 10 = .ok (.invokevirtual 136, 3) := by decide +kernel
theorem dX0_creased_13 : decode cX0_creased 13 = .ok (.ireturn, 1) := by decide +kernel
theorem dX0_digits_0 : decode cX0_digits 0 = .ok (.iconst 0, 1) := by decide +kernel
theorem dX0_digits_1 : decode cX0_digits 1 = .ok (.istore_n 1, 1) := by decide +kernel
theorem dX0_digits_2 : decode cX0_digits 2 = .ok (.iconst 0, 1) := by decide +kernel
theorem dX0_digits_3 : decode cX0_digits 3 = .ok (.istore_n 2, 1) := by decide +kernel
theorem dX0_digits_4 : decode cX0_digits 4 = .ok (.iload_n 2, 1) := by decide +kernel
theorem dX0_digits_5 : decode cX0_digits 5 = .ok (.aload_n 0, 1) := by decide +kernel
theorem dX0_digits_6 : decode cX0_digits 6 = .ok (.getfield 34, 3) := by decide +kernel
theorem dX0_digits_9 : decode cX0_digits 9 = .ok (.if_icmp .ge 23, 3) := by decide +kernel
theorem dX0_digits_12 : decode cX0_digits 12 = .ok (.iload_n 1, 1) := by decide +kernel
theorem dX0_digits_13 : decode cX0_digits 13 = .ok (.bipush 10, 2) := by decide +kernel
theorem dX0_digits_15 : decode cX0_digits 15 = .ok (.imul, 1) := by decide +kernel
theorem dX0_digits_16 : decode cX0_digits 16 = .ok (.aload_n 0, 1) := by decide +kernel
theorem dX0_digits_17 : decode cX0_digits 17 = .ok (.getfield 9, 3) := by decide +kernel
theorem dX0_digits_20 : decode cX0_digits 20 = .ok (.iload_n 2, 1) := by decide +kernel
theorem dX0_digits_21 : decode cX0_digits 21 = .ok (.iaload, 1) := by decide +kernel
theorem dX0_digits_22 : decode cX0_digits 22 = .ok (.iadd, 1) := by decide +kernel
theorem dX0_digits_23 : decode cX0_digits 23 = .ok (.iconst 1, 1) := by decide +kernel
theorem dX0_digits_24 : decode cX0_digits 24 = .ok (.iadd, 1) := by decide +kernel
theorem dX0_digits_25 : decode cX0_digits 25 = .ok (.istore_n 1, 1) := by decide +kernel
theorem dX0_digits_26 : decode cX0_digits 26 = .ok (.iinc 2 1, 3) := by decide +kernel
theorem dX0_digits_29 : decode cX0_digits 29 = .ok (.goto (-25), 3) := by decide +kernel
theorem dX0_digits_32 : decode cX0_digits 32 = .ok (.iload_n 1, 1) := by decide +kernel
theorem dX0_digits_33 : decode cX0_digits 33 = .ok (.ireturn, 1) := by decide +kernel
theorem dX0_answer_0 : decode cX0_answer 0 = .ok (.iload_n 2, 1) := by decide +kernel
theorem dX0_answer_1 : decode cX0_answer 1 = .ok (.bipush 10, 2) := by decide +kernel
theorem dX0_answer_3 : decode cX0_answer 3 = .ok (.if_icmp .ge 25, 3) := by decide +kernel
theorem dX0_answer_6 : decode cX0_answer 6 = .ok (.iload_n 2, 1) := by decide +kernel
theorem dX0_answer_7 : decode cX0_answer 7 = .ok (.ifCond .ne 11, 3) := by decide +kernel
theorem dX0_answer_10 : decode cX0_answer 10 = .ok (.aload_n 0, 1) := by decide +kernel
theorem dX0_answer_11 : decode cX0_answer 11 = .ok (.aload_n 1, 1) := by decide +kernel
theorem dX0_answer_12 : decode cX0_answer 12 = .ok (.invokevirtual 140, 3) := by decide +kernel
theorem dX0_answer_15 : decode cX0_answer 15 = .ok (.goto 12, 3) := by decide +kernel
theorem dX0_answer_18 : decode cX0_answer 18 = .ok (.aload_n 0, 1) := by decide +kernel
theorem dX0_answer_19 : decode cX0_answer 19 = .ok (.getfield 24, 3) := by decide +kernel
theorem dX0_answer_22 : decode cX0_answer 22 = .ok (.aload_n 0, 1) := by decide +kernel
theorem dX0_answer_23 : decode cX0_answer 23 = .ok (.getfield 34, 3) := by decide +kernel
theorem dX0_answer_26 : decode cX0_answer 26 = .ok (.iaload, 1) := by decide +kernel
theorem dX0_answer_27 : decode cX0_answer 27 = .ok (.ireturn, 1) := by decide +kernel
theorem dX0_answer_28 : decode cX0_answer 28 = .ok (.iload_n 2, 1) := by decide +kernel
theorem dX0_answer_29 : decode cX0_answer 29 = .ok (.bipush 20, 2) := by decide +kernel
theorem dX0_answer_31 : decode cX0_answer 31 = .ok (.if_icmp .ge 20, 3) := by decide +kernel
theorem dX0_answer_34 : decode cX0_answer 34 = .ok (.aload_n 0, 1) := by decide +kernel
theorem dX0_answer_35 : decode cX0_answer 35 = .ok (.getfield 21, 3) := by decide +kernel
theorem dX0_answer_38 : decode cX0_answer 38 = .ok (.aload_n 0, 1) := by decide +kernel
theorem dX0_answer_39 : decode cX0_answer 39 = .ok (.getfield 34, 3) := by decide +kernel
theorem dX0_answer_42 : decode cX0_answer 42 = .ok (.aaload, 1) := by decide +kernel
theorem dX0_answer_43 : decode cX0_answer 43 = .ok (.iload_n 2, 1) := by decide +kernel
theorem dX0_answer_44 : decode cX0_answer 44 = .ok (.bipush 10, 2) := by decide +kernel
theorem dX0_answer_46 : decode cX0_answer 46 = .ok (.irem, 1) := by decide +kernel
theorem dX0_answer_47 : decode cX0_answer 47 = .ok (.iaload, 1) := by decide +kernel
theorem dX0_answer_48 : decode cX0_answer 48 = .ok (.goto 11, 3) := by decide +kernel
theorem dX0_answer_51 : decode cX0_answer 51 = .ok (.aload_n 0, 1) := by decide +kernel
theorem dX0_answer_52 : decode cX0_answer 52 = .ok (.iload_n 2, 1) := by decide +kernel
theorem dX0_answer_53 : decode cX0_answer 53 = .ok (.bipush 10, 2) := by decide +kernel
theorem dX0_answer_55 : decode cX0_answer 55 = .ok (.irem, 1) := by decide +kernel
theorem dX0_answer_56 : decode cX0_answer 56 = .ok (.invokevirtual 144, 3) := by decide +kernel
theorem dX0_answer_59 : decode cX0_answer 59 = .ok (.ireturn, 1) := by decide +kernel
theorem dX0_doneAt_0 : decode cX0_doneAt 0 = .ok (.iconst 0, 1) := by decide +kernel
theorem dX0_doneAt_1 : decode cX0_doneAt 1 = .ok (.istore_n 2, 1) := by decide +kernel
theorem dX0_doneAt_2 : decode cX0_doneAt 2 = .ok (.iload_n 2, 1) := by decide +kernel
theorem dX0_doneAt_3 : decode cX0_doneAt 3 = .ok (.aload_n 0, 1) := by decide +kernel
theorem dX0_doneAt_4 : decode cX0_doneAt 4 = .ok (.getfield 34, 3) := by decide +kernel
theorem dX0_doneAt_7 : decode cX0_doneAt 7 = .ok (.if_icmp .ge 28, 3) := by decide +kernel
theorem dX0_doneAt_10 : decode cX0_doneAt 10 = .ok (.aload_n 0, 1) := by decide +kernel
theorem dX0_doneAt_11 : decode cX0_doneAt 11 = .ok (.getfield 9, 3) := by decide +kernel
theorem dX0_doneAt_14 : decode cX0_doneAt 14 = .ok (.iload_n 2, 1) := by decide +kernel
theorem dX0_doneAt_15 : decode cX0_doneAt 15 = .ok (.iaload, 1) := by decide +kernel
theorem dX0_doneAt_16 : decode cX0_doneAt 16 = .ok (.iload_n 1, 1) := by decide +kernel
theorem dX0_doneAt_17 : decode cX0_doneAt 17 = .ok (.if_icmp .ne 12, 3) := by decide +kernel
theorem dX0_doneAt_20 : decode cX0_doneAt 20 = .ok (.aload_n 0, 1) := by decide +kernel
theorem dX0_doneAt_21 : decode cX0_doneAt 21 = .ok (.getfield 24, 3) := by decide +kernel
theorem dX0_doneAt_24 : decode cX0_doneAt 24 = .ok (.iload_n 2, 1) := by decide +kernel
theorem dX0_doneAt_25 : decode cX0_doneAt 25 = .ok (.iconst 1, 1) := by decide +kernel
theorem dX0_doneAt_26 : decode cX0_doneAt 26 = .ok (.iadd, 1) := by decide +kernel
theorem dX0_doneAt_27 : decode cX0_doneAt 27 = .ok (.iaload, 1) := by decide +kernel
theorem dX0_doneAt_28 : decode cX0_doneAt 28 = .ok (.ireturn, 1) := by decide +kernel
theorem dX0_doneAt_29 : decode cX0_doneAt 29 = .ok (.iinc 2 1, 3) := by decide +kernel
theorem dX0_doneAt_32 : decode cX0_doneAt 32 = .ok (.goto (-30), 3) := by decide +kernel
theorem dX0_doneAt_35 : decode cX0_doneAt 35 = .ok (.iconst (-1), 1) := by decide +kernel
theorem dX0_doneAt_36 : decode cX0_doneAt 36 = .ok (.ireturn, 1) := by decide +kernel
theorem dX0_exchange_0 : decode cX0_exchange 0 = .ok (.aload_n 0, 1) := by decide +kernel
theorem dX0_exchange_1 : decode cX0_exchange 1 = .ok (.getfield 9, 3) := by decide +kernel
theorem dX0_exchange_4 : decode cX0_exchange 4 = .ok (.iload_n 1, 1) := by decide +kernel
theorem dX0_exchange_5 : decode cX0_exchange 5 = .ok (.iaload, 1) := by decide +kernel
theorem dX0_exchange_6 : decode cX0_exchange 6 = .ok (.istore_n 3, 1) := by decide +kernel
theorem dX0_exchange_7 : decode cX0_exchange 7 = .ok (.aload_n 0, 1) := by decide +kernel
theorem dX0_exchange_8 : decode cX0_exchange 8 = .ok (.getfield 9, 3) := by decide +kernel
theorem dX0_exchange_11 : decode cX0_exchange 11 = .ok (.iload_n 1, 1) := by decide +kernel
theorem dX0_exchange_12 : decode cX0_exchange 12 = .ok (.aload_n 0, 1) := by decide +kernel
theorem dX0_exchange_13 : decode cX0_exchange 13 = .ok (.getfield 9, 3) := by decide +kernel
theorem dX0_exchange_16 : decode cX0_exchange 16 = .ok (.iload_n 2, 1) := by decide +kernel
theorem dX0_exchange_17 : decode cX0_exchange 17 = .ok (.iaload, 1) := by decide +kernel
theorem dX0_exchange_18 : decode cX0_exchange 18 = .ok (.iastore, 1) := by decide +kernel
theorem dX0_exchange_19 : decode cX0_exchange 19 = .ok (.aload_n 0, 1) := by decide +kernel
theorem dX0_exchange_20 : decode cX0_exchange 20 = .ok (.getfield 9, 3) := by decide +kernel
theorem dX0_exchange_23 : decode cX0_exchange 23 = .ok (.iload_n 2, 1) := by decide +kernel
theorem dX0_exchange_24 : decode cX0_exchange 24 = .ok (.iload_n 3, 1) := by decide +kernel
theorem dX0_exchange_25 : decode cX0_exchange 25 = .ok (.iastore, 1) := by decide +kernel
theorem dX0_exchange_26 : decode cX0_exchange 26 = .ok (.return_, 1) := by decide +kernel
theorem dX0_next_0 : decode cX0_next 0 = .ok (.aload_n 0, 1) := by decide +kernel
theorem dX0_next_1 : decode cX0_next 1 = .ok (.getfield 34, 3) := by decide +kernel
theorem dX0_next_4 : decode cX0_next 4 = .ok (.iconst 2, 1) := by decide +kernel
theorem dX0_next_5 : decode cX0_next 5 = .ok (.isub, 1) := by decide +kernel
theorem dX0_next_6 : decode cX0_next 6 = .ok (.istore_n 1, 1) := by decide +kernel
theorem dX0_next_7 : decode cX0_next 7 = .ok (.iload_n 1, 1) := by decide +kernel
theorem dX0_next_8 : decode cX0_next 8 = .ok (.ifCond .lt 26, 3) := by decide +kernel
theorem dX0_next_11 : decode cX0_next 11 = .ok (.aload_n 0, 1) := by decide +kernel
theorem dX0_next_12 : decode cX0_next 12 = .ok (.getfield 9, 3) := by decide +kernel
theorem dX0_next_15 : decode cX0_next 15 = .ok (.iload_n 1, 1) := by decide +kernel
theorem dX0_next_16 : decode cX0_next 16 = .ok (.iaload, 1) := by decide +kernel
theorem dX0_next_17 : decode cX0_next 17 = .ok (.aload_n 0, 1) := by decide +kernel
theorem dX0_next_18 : decode cX0_next 18 = .ok (.getfield 9, 3) := by decide +kernel
theorem dX0_next_21 : decode cX0_next 21 = .ok (.iload_n 1, 1) := by decide +kernel
theorem dX0_next_22 : decode cX0_next 22 = .ok (.iconst 1, 1) := by decide +kernel
theorem dX0_next_23 : decode cX0_next 23 = .ok (.iadd, 1) := by decide +kernel
theorem dX0_next_24 : decode cX0_next 24 = .ok (.iaload, 1) := by decide +kernel
theorem dX0_next_25 : decode cX0_next 25 = .ok (.if_icmp .le 9, 3) := by decide +kernel
theorem dX0_next_28 : decode cX0_next 28 = .ok (.iinc 1 (-1), 3) := by decide +kernel
theorem dX0_next_31 : decode cX0_next 31 = .ok (.goto (-24), 3) := by decide +kernel
theorem dX0_next_34 : decode cX0_next 34 = .ok (.iload_n 1, 1) := by decide +kernel
theorem dX0_next_35 : decode cX0_next 35 = .ok (.ifCond .ge 5, 3) := by decide +kernel
theorem dX0_next_38 : decode cX0_next 38 = .ok (.iconst (-1), 1) := by decide +kernel
theorem dX0_next_39 : decode cX0_next 39 = .ok (.ireturn, 1) := by decide +kernel
theorem dX0_next_40 : decode cX0_next 40 = .ok (.aload_n 0, 1) := by decide +kernel
theorem dX0_next_41 : decode cX0_next 41 = .ok (.getfield 34, 3) := by decide +kernel
theorem dX0_next_44 : decode cX0_next 44 = .ok (.iconst 1, 1) := by decide +kernel
theorem dX0_next_45 : decode cX0_next 45 = .ok (.isub, 1) := by decide +kernel
theorem dX0_next_46 : decode cX0_next 46 = .ok (.istore_n 2, 1) := by decide +kernel
theorem dX0_next_47 : decode cX0_next 47 = .ok (.iload_n 2, 1) := by decide +kernel
theorem dX0_next_48 : decode cX0_next 48 = .ok (.iload_n 1, 1) := by decide +kernel
theorem dX0_next_49 : decode cX0_next 49 = .ok (.iconst 1, 1) := by decide +kernel
theorem dX0_next_50 : decode cX0_next 50 = .ok (.iadd, 1) := by decide +kernel
theorem dX0_next_51 : decode cX0_next 51 = .ok (.if_icmp .le 24, 3) := by decide +kernel
theorem dX0_next_54 : decode cX0_next 54 = .ok (.aload_n 0, 1) := by decide +kernel
theorem dX0_next_55 : decode cX0_next 55 = .ok (.getfield 9, 3) := by decide +kernel
theorem dX0_next_58 : decode cX0_next 58 = .ok (.iload_n 2, 1) := by decide +kernel
theorem dX0_next_59 : decode cX0_next 59 = .ok (.iaload, 1) := by decide +kernel
theorem dX0_next_60 : decode cX0_next 60 = .ok (.aload_n 0, 1) := by decide +kernel
theorem dX0_next_61 : decode cX0_next 61 = .ok (.getfield 9, 3) := by decide +kernel
theorem dX0_next_64 : decode cX0_next 64 = .ok (.iload_n 1, 1) := by decide +kernel
theorem dX0_next_65 : decode cX0_next 65 = .ok (.iaload, 1) := by decide +kernel
theorem dX0_next_66 : decode cX0_next 66 = .ok (.if_icmp .ge 9, 3) := by decide +kernel
theorem dX0_next_69 : decode cX0_next 69 = .ok (.iinc 2 (-1), 3) := by decide +kernel
theorem dX0_next_72 : decode cX0_next 72 = .ok (.goto (-25), 3) := by decide +kernel
theorem dX0_next_75 : decode cX0_next 75 = .ok (.aload_n 0, 1) := by decide +kernel
theorem dX0_next_76 : decode cX0_next 76 = .ok (.iload_n 1, 1) := by decide +kernel
theorem dX0_next_77 : decode cX0_next 77 = .ok (.iload_n 2, 1) := by decide +kernel
theorem dX0_next_78 : decode cX0_next 78 = .ok (.invokevirtual 147, 3) := by decide +kernel
theorem dX0_next_81 : decode cX0_next 81 = .ok (.iload_n 1, 1) := by decide +kernel
theorem dX0_next_82 : decode cX0_next 82 = .ok (.iconst 1, 1) := by decide +kernel
theorem dX0_next_83 : decode cX0_next 83 = .ok (.iadd, 1) := by decide +kernel
theorem dX0_next_84 : decode cX0_next 84 = .ok (.istore_n 3, 1) := by decide +kernel
theorem dX0_next_85 : decode cX0_next 85 = .ok (.aload_n 0, 1) := by decide +kernel
theorem dX0_next_86 : decode cX0_next 86 = .ok (.getfield 34, 3) := by decide +kernel
theorem dX0_next_89 : decode cX0_next 89 = .ok (.iconst 1, 1) := by decide +kernel
theorem dX0_next_90 : decode cX0_next 90 = .ok (.isub, 1) := by decide +kernel
theorem dX0_next_91 : decode cX0_next 91 = .ok (.istore 4, 2) := by decide +kernel
theorem dX0_next_93 : decode cX0_next 93 = .ok (.iload_n 3, 1) := by decide +kernel
theorem dX0_next_94 : decode cX0_next 94 = .ok (.iload 4, 2) := by decide +kernel
theorem dX0_next_96 : decode cX0_next 96 = .ok (.if_icmp .ge 19, 3) := by decide +kernel
theorem dX0_next_99 : decode cX0_next 99 = .ok (.aload_n 0, 1) := by decide +kernel
theorem dX0_next_100 : decode cX0_next 100 = .ok (.iload_n 3, 1) := by decide +kernel
theorem dX0_next_101 : decode cX0_next 101 = .ok (.iload 4, 2) := by decide +kernel
theorem dX0_next_103 : decode cX0_next 103 = .ok (.invokevirtual 147, 3) := by decide +kernel
theorem dX0_next_106 : decode cX0_next 106 = .ok (.iinc 3 1, 3) := by decide +kernel
theorem dX0_next_109 : decode cX0_next 109 = .ok (.iinc 4 (-1), 3) := by decide +kernel
theorem dX0_next_112 : decode cX0_next 112 = .ok (.goto (-19), 3) := by decide +kernel
theorem dX0_next_115 : decode cX0_next 115 = .ok (.iload_n 1, 1) := by decide +kernel
theorem dX0_next_116 : decode cX0_next 116 = .ok (.ireturn, 1) := by decide +kernel
theorem dX1_keeps_0 : decode cX1_keeps 0 = .ok (.bipush 99, 2) := by decide +kernel
theorem dX1_keeps_2 : decode cX1_keeps 2 = .ok (.istore 4, 2) := by decide +kernel
theorem dX1_keeps_4 : decode cX1_keeps 4 = .ok (.iload_n 0, 1) := by decide +kernel
theorem dX1_keeps_5 : decode cX1_keeps 5 = .ok (.tableswitch 67 1 5 #[35, 39, 35, 48, 63], 35) := by decide +kernel
theorem dX1_keeps_40 : decode cX1_keeps 40 = .ok (.iload_n 1, 1) := by decide +kernel
theorem dX1_keeps_41 : decode cX1_keeps 41 = .ok (.iconst 2, 1) := by decide +kernel
theorem dX1_keeps_42 : decode cX1_keeps 42 = .ok (.idiv, 1) := by decide +kernel
theorem dX1_keeps_43 : decode cX1_keeps 43 = .ok (.ireturn, 1) := by decide +kernel
theorem dX1_keeps_44 : decode cX1_keeps 44 = .ok (.iload 4, 2) := by decide +kernel
theorem dX1_keeps_46 : decode cX1_keeps 46 = .ok (.iload_n 1, 1) := by decide +kernel
theorem dX1_keeps_47 : decode cX1_keeps 47 = .ok (.iload_n 3, 1) := by decide +kernel
theorem dX1_keeps_48 : decode cX1_keeps 48 = .ok (.iadd, 1) := by decide +kernel
theorem dX1_keeps_49 : decode cX1_keeps 49 = .ok (.invokestatic 9, 3) := by decide +kernel
theorem dX1_keeps_52 : decode cX1_keeps 52 = .ok (.ireturn, 1) := by decide +kernel
theorem dX1_keeps_53 : decode cX1_keeps 53 = .ok (.iload 4, 2) := by decide +kernel
theorem dX1_keeps_55 : decode cX1_keeps 55 = .ok (.iload_n 1, 1) := by decide +kernel
theorem dX1_keeps_56 : decode cX1_keeps 56 = .ok (.iload_n 2, 1) := by decide +kernel
theorem dX1_keeps_57 : decode cX1_keeps 57 = .ok (.iconst 2, 1) := by decide +kernel
theorem dX1_keeps_58 : decode cX1_keeps 58 = .ok (.idiv, 1) := by decide +kernel
theorem dX1_keeps_59 : decode cX1_keeps 59 = .ok (.invokestatic 9, 3) := by decide +kernel
theorem dX1_keeps_62 : decode cX1_keeps 62 = .ok (.iload_n 3, 1) := by decide +kernel
theorem dX1_keeps_63 : decode cX1_keeps 63 = .ok (.iadd, 1) := by decide +kernel
theorem dX1_keeps_64 : decode cX1_keeps 64 = .ok (.invokestatic 9, 3) := by decide +kernel
theorem dX1_keeps_67 : decode cX1_keeps 67 = .ok (.ireturn, 1) := by decide +kernel
theorem dX1_keeps_68 : decode cX1_keeps 68 = .ok (.iload_n 2, 1) := by decide +kernel
theorem dX1_keeps_69 : decode cX1_keeps 69 = .ok (.iconst 3, 1) := by decide +kernel
theorem dX1_keeps_70 : decode cX1_keeps 70 = .ok (.idiv, 1) := by decide +kernel
theorem dX1_keeps_71 : decode cX1_keeps 71 = .ok (.ireturn, 1) := by decide +kernel
theorem dX1_keeps_72 : decode cX1_keeps 72 = .ok (.iload_n 1, 1) := by decide +kernel
theorem dX1_keeps_73 : decode cX1_keeps 73 = .ok (.ireturn, 1) := by decide +kernel
theorem dX1_takes_0 : decode cX1_takes 0 = .ok (.iconst 1, 1) := by decide +kernel
theorem dX1_takes_1 : decode cX1_takes 1 = .ok (.istore_n 3, 1) := by decide +kernel
theorem dX1_takes_2 : decode cX1_takes 2 = .ok (.iload_n 0, 1) := by decide +kernel
theorem dX1_takes_3 : decode cX1_takes 3 = .ok (.tableswitch 61 1 5 #[33, 61, 41, 51, 59], 33) := by decide +kernel
theorem dX1_takes_36 : decode cX1_takes 36 = .ok (.iload_n 3, 1) := by decide +kernel
theorem dX1_takes_37 : decode cX1_takes 37 = .ok (.iconst 2, 1) := by decide +kernel
theorem dX1_takes_38 : decode cX1_takes 38 = .ok (.iload_n 1, 1) := by decide +kernel
theorem dX1_takes_39 : decode cX1_takes 39 = .ok (.imul, 1) := by decide +kernel
theorem dX1_takes_40 : decode cX1_takes 40 = .ok (.invokestatic 15, 3) := by decide +kernel
theorem dX1_takes_43 : decode cX1_takes 43 = .ok (.ireturn, 1) := by decide +kernel
theorem dX1_takes_44 : decode cX1_takes 44 = .ok (.iload_n 3, 1) := by decide +kernel
theorem dX1_takes_45 : decode cX1_takes 45 = .ok (.iconst 2, 1) := by decide +kernel
theorem dX1_takes_46 : decode cX1_takes 46 = .ok (.iload_n 1, 1) := by decide +kernel
theorem dX1_takes_47 : decode cX1_takes 47 = .ok (.imul, 1) := by decide +kernel
theorem dX1_takes_48 : decode cX1_takes 48 = .ok (.iload_n 2, 1) := by decide +kernel
theorem dX1_takes_49 : decode cX1_takes 49 = .ok (.iadd, 1) := by decide +kernel
theorem dX1_takes_50 : decode cX1_takes 50 = .ok (.invokestatic 15, 3) := by decide +kernel
theorem dX1_takes_53 : decode cX1_takes 53 = .ok (.ireturn, 1) := by decide +kernel
theorem dX1_takes_54 : decode cX1_takes 54 = .ok (.iload_n 3, 1) := by decide +kernel
theorem dX1_takes_55 : decode cX1_takes 55 = .ok (.iload_n 1, 1) := by decide +kernel
theorem dX1_takes_56 : decode cX1_takes 56 = .ok (.iconst 2, 1) := by decide +kernel
theorem dX1_takes_57 : decode cX1_takes 57 = .ok (.idiv, 1) := by decide +kernel
theorem dX1_takes_58 : decode cX1_takes 58 = .ok (.invokestatic 15, 3) := by decide +kernel
theorem dX1_takes_61 : decode cX1_takes 61 = .ok (.ireturn, 1) := by decide +kernel
theorem dX1_takes_62 : decode cX1_takes 62 = .ok (.iload_n 3, 1) := by decide +kernel
theorem dX1_takes_63 : decode cX1_takes 63 = .ok (.ireturn, 1) := by decide +kernel
theorem dX1_takes_64 : decode cX1_takes 64 = .ok (.iload_n 3, 1) := by decide +kernel
theorem dX1_takes_65 : decode cX1_takes 65 = .ok (.iload_n 1, 1) := by decide +kernel
theorem dX1_takes_66 : decode cX1_takes 66 = .ok (.invokestatic 15, 3) := by decide +kernel
theorem dX1_takes_69 : decode cX1_takes 69 = .ok (.ireturn, 1) := by decide +kernel
theorem dX1_crumples_0 : decode cX1_crumples 0 = .ok (.iload_n 0, 1) := by decide +kernel
theorem dX1_crumples_1 : decode cX1_crumples 1 = .ok (.tableswitch 49 1 5 #[35, 43, 35, 43, 47], 35) := by decide +kernel
theorem dX1_crumples_36 : decode cX1_crumples 36 = .ok (.iconst 0, 1) := by decide +kernel
theorem dX1_crumples_37 : decode cX1_crumples 37 = .ok (.iload_n 1, 1) := by decide +kernel
theorem dX1_crumples_38 : decode cX1_crumples 38 = .ok (.iconst 2, 1) := by decide +kernel
theorem dX1_crumples_39 : decode cX1_crumples 39 = .ok (.isub, 1) := by decide +kernel
theorem dX1_crumples_40 : decode cX1_crumples 40 = .ok (.invokestatic 15, 3) := by decide +kernel
theorem dX1_crumples_43 : decode cX1_crumples 43 = .ok (.ireturn, 1) := by decide +kernel
theorem dX1_crumples_44 : decode cX1_crumples 44 = .ok (.iconst 2, 1) := by decide +kernel
theorem dX1_crumples_45 : decode cX1_crumples 45 = .ok (.iload_n 1, 1) := by decide +kernel
theorem dX1_crumples_46 : decode cX1_crumples 46 = .ok (.imul, 1) := by decide +kernel
theorem dX1_crumples_47 : decode cX1_crumples 47 = .ok (.ireturn, 1) := by decide +kernel
theorem dX1_crumples_48 : decode cX1_crumples 48 = .ok (.iconst 0, 1) := by decide +kernel
theorem dX1_crumples_49 : decode cX1_crumples 49 = .ok (.ireturn, 1) := by decide +kernel
theorem dX1_crumples_50 : decode cX1_crumples 50 = .ok (.iload_n 1, 1) := by decide +kernel
theorem dX1_crumples_51 : decode cX1_crumples 51 = .ok (.ireturn, 1) := by decide +kernel
theorem dX1_shows_0 : decode cX1_shows 0 = .ok (.iload_n 0, 1) := by decide +kernel
theorem dX1_shows_1 : decode cX1_shows 1 = .ok (.tableswitch 35 1 4 #[31, 35, 33, 33], 31) := by decide +kernel
theorem dX1_shows_32 : decode cX1_shows 32 = .ok (.iconst 3, 1) := by decide +kernel
theorem dX1_shows_33 : decode cX1_shows 33 = .ok (.ireturn, 1) := by decide +kernel
theorem dX1_shows_34 : decode cX1_shows 34 = .ok (.iconst 2, 1) := by decide +kernel
theorem dX1_shows_35 : decode cX1_shows 35 = .ok (.ireturn, 1) := by decide +kernel
theorem dX1_shows_36 : decode cX1_shows 36 = .ok (.iconst 1, 1) := by decide +kernel
theorem dX1_shows_37 : decode cX1_shows 37 = .ok (.ireturn, 1) := by decide +kernel
theorem dX1_isUnder_0 : decode cX1_isUnder 0 = .ok (.iload_n 0, 1) := by decide +kernel
theorem dX1_isUnder_1 : decode cX1_isUnder 1 = .ok (.istore_n 2, 1) := by decide +kernel
theorem dX1_isUnder_2 : decode cX1_isUnder 2 = .ok (.iconst 0, 1) := by decide +kernel
theorem dX1_isUnder_3 : decode cX1_isUnder 3 = .ok (.istore_n 3, 1) := by decide +kernel
theorem dX1_isUnder_4 : decode cX1_isUnder 4 = .ok (.iload_n 3, 1) := by decide +kernel
theorem dX1_isUnder_5 : decode cX1_isUnder 5 = .ok (.bipush 6, 2) := by decide +kernel
theorem dX1_isUnder_7 : decode cX1_isUnder 7 = .ok (.if_icmp .ge 30, 3) := by decide +kernel
theorem dX1_isUnder_10 : decode cX1_isUnder 10 = .ok (.iload_n 2, 1) := by decide +kernel
theorem dX1_isUnder_11 : decode cX1_isUnder 11 = .ok (.ifCond .lt 26, 3) := by decide +kernel
theorem dX1_isUnder_14 : decode cX1_isUnder 14 = .ok (.iload_n 2, 1) := by decide +kernel
theorem dX1_isUnder_15 : decode cX1_isUnder 15 = .ok (.bipush 6, 2) := by decide +kernel
theorem dX1_isUnder_17 : decode cX1_isUnder 17 = .ok (.if_icmp .ge 20, 3) := by decide +kernel
theorem dX1_isUnder_20 : decode cX1_isUnder 20 = .ok (.iload_n 2, 1) := by decide +kernel
theorem dX1_isUnder_21 : decode cX1_isUnder 21 = .ok (.iload_n 1, 1) := by decide +kernel
theorem dX1_isUnder_22 : decode cX1_isUnder 22 = .ok (.if_icmp .eq 15, 3) := by decide +kernel
theorem dX1_isUnder_25 : decode cX1_isUnder 25 = .ok (.getstatic 20, 3) := by decide +kernel
theorem dX1_isUnder_28 : decode cX1_isUnder 28 = .ok (.iload_n 2, 1) := by decide +kernel
theorem dX1_isUnder_29 : decode cX1_isUnder 29 = .ok (.iaload, 1) := by decide +kernel
theorem dX1_isUnder_30 : decode cX1_isUnder 30 = .ok (.istore_n 2, 1) := by decide +kernel
theorem dX1_isUnder_31 : decode cX1_isUnder 31 = .ok (.iinc 3 1, 3) := by decide +kernel
theorem dX1_isUnder_34 : decode cX1_isUnder 34 = .ok (.goto (-30), 3) := by decide +kernel
theorem dX1_isUnder_37 : decode cX1_isUnder 37 = .ok (.iload_n 2, 1) := by decide +kernel
theorem dX1_isUnder_38 : decode cX1_isUnder 38 = .ok (.iload_n 1, 1) := by decide +kernel
theorem dX1_isUnder_39 : decode cX1_isUnder 39 = .ok (.if_icmp .ne 7, 3) := by decide +kernel
theorem dX1_isUnder_42 : decode cX1_isUnder 42 = .ok (.iconst 1, 1) := by decide +kernel
theorem dX1_isUnder_43 : decode cX1_isUnder 43 = .ok (.goto 4, 3) := by decide +kernel
theorem dX1_isUnder_46 : decode cX1_isUnder 46 = .ok (.iconst 0, 1) := by decide +kernel
theorem dX1_isUnder_47 : decode cX1_isUnder 47 = .ok (.ireturn, 1) := by decide +kernel
theorem dX2_init_0 : decode cX2_init 0 = .ok (.aload_n 0, 1) := by decide +kernel
theorem dX2_init_1 : decode cX2_init 1 = .ok (.invokespecial 3, 3) := by decide +kernel
theorem dX2_init_4 : decode cX2_init 4 = .ok (.aload_n 0, 1) := by decide +kernel
theorem dX2_init_5 : decode cX2_init 5 = .ok (.sipush 160, 3) := by decide +kernel
theorem dX2_init_8 : decode cX2_init 8 = .ok (.newarray .int, 2) := by decide +kernel
theorem dX2_init_10 : decode cX2_init 10 = .ok (.putfield 9, 3) := by decide +kernel
theorem dX2_init_13 : decode cX2_init 13 = .ok (.return_, 1) := by decide +kernel
theorem dX2_takeIn_0 : decode cX2_takeIn 0 = .ok (.aload_n 0, 1) := by decide +kernel
theorem dX2_takeIn_1 : decode cX2_takeIn 1 = .ok (.getfield 15, 3) := by decide +kernel
theorem dX2_takeIn_4 : decode cX2_takeIn 4 = .ok (.sipush 160, 3) := by decide +kernel
theorem dX2_takeIn_7 : decode cX2_takeIn 7 = .ok (.if_icmp .lt 5, 3) := by decide +kernel
theorem dX2_takeIn_10 : decode cX2_takeIn 10 = .ok (.iconst 0, 1) := by decide +kernel
theorem dX2_takeIn_11 : decode cX2_takeIn 11 = .ok (.ireturn, 1) := by decide +kernel
theorem dX2_takeIn_12 : decode cX2_takeIn 12 = .ok (.aload_n 0, 1) := by decide +kernel
theorem dX2_takeIn_13 : decode cX2_takeIn 13 = .ok (.getfield 9, 3) := by decide +kernel
theorem dX2_takeIn_16 : decode cX2_takeIn 16 = .ok (.aload_n 0, 1) := by decide +kernel
theorem dX2_takeIn_17 : decode cX2_takeIn 17 = .ok (.dup, 1) := by decide +kernel
theorem dX2_takeIn_18 : decode cX2_takeIn 18 = .ok (.getfield 15, 3) := by decide +kernel
theorem dX2_takeIn_21 : decode cX2_takeIn 21 = .ok (.dup_x1, 1) := by decide +kernel
theorem dX2_takeIn_22 : decode cX2_takeIn 22 = .ok (.iconst 1, 1) := by decide +kernel
theorem dX2_takeIn_23 : decode cX2_takeIn 23 = .ok (.iadd, 1) := by decide +kernel
theorem dX2_takeIn_24 : decode cX2_takeIn 24 = .ok (.putfield 15, 3) := by decide +kernel
theorem dX2_takeIn_27 : decode cX2_takeIn 27 = .ok (.iload_n 1, 1) := by decide +kernel
theorem dX2_takeIn_28 : decode cX2_takeIn 28 = .ok (.iastore, 1) := by decide +kernel
theorem dX2_takeIn_29 : decode cX2_takeIn 29 = .ok (.iconst 1, 1) := by decide +kernel
theorem dX2_takeIn_30 : decode cX2_takeIn 30 = .ok (.ireturn, 1) := by decide +kernel
theorem dX2_read_0 : decode cX2_read 0 = .ok (.aload_n 0, 1) := by decide +kernel
theorem dX2_read_1 : decode cX2_read 1 = .ok (.aload_n 1, 1) := by decide +kernel
theorem dX2_read_2 : decode cX2_read 2 = .ok (.putfield 19, 3) := by decide +kernel
theorem dX2_read_5 : decode cX2_read 5 = .ok (.aload_n 0, 1) := by decide +kernel
theorem dX2_read_6 : decode cX2_read 6 = .ok (.iconst 0, 1) := by decide +kernel
theorem dX2_read_7 : decode cX2_read 7 = .ok (.putfield 22, 3) := by decide +kernel
theorem dX2_read_10 : decode cX2_read 10 = .ok (.aload_n 0, 1) := by decide +kernel
theorem dX2_read_11 : decode cX2_read 11 = .ok (.iconst 0, 1) := by decide +kernel
theorem dX2_read_12 : decode cX2_read 12 = .ok (.putfield 25, 3) := by decide +kernel
theorem dX2_read_15 : decode cX2_read 15 = .ok (.aload_n 0, 1) := by decide +kernel
theorem dX2_read_16 : decode cX2_read 16 = .ok (.invokevirtual 28, 3) := by decide +kernel
theorem dX2_read_19 : decode cX2_read 19 = .ok (.iconst 0, 1) := by decide +kernel
theorem dX2_read_20 : decode cX2_read 20 = .ok (.istore_n 3, 1) := by decide +kernel
theorem dX2_read_21 : decode cX2_read 21 = .ok (.iload_n 3, 1) := by decide +kernel
theorem dX2_read_22 : decode cX2_read 22 = .ok (.iconst 3, 1) := by decide +kernel
theorem dX2_read_23 : decode cX2_read 23 = .ok (.if_icmp .ge 70, 3) := by decide +kernel
theorem dX2_read_26 : decode cX2_read 26 = .ok (.aload_n 0, 1) := by decide +kernel
theorem dX2_read_27 : decode cX2_read 27 = .ok (.getfield 33, 3) := by decide +kernel
theorem dX2_read_30 : decode cX2_read 30 = .ok (.sipush 256, 3) := by decide +kernel
theorem dX2_read_33 : decode cX2_read 33 = .ok (.iload_n 3, 1) := by decide +kernel
theorem dX2_read_34 : decode cX2_read 34 = .ok (.iadd, 1) := by decide +kernel
theorem dX2_read_35 : decode cX2_read 35 = .ok (.if_icmp .eq 8, 3) := by decide +kernel
theorem dX2_read_38 : decode cX2_read 38 = .ok (.aload_n 0, 1) := by decide +kernel
theorem dX2_read_39 : decode cX2_read 39 = .ok (.getfield 36, 3) := by decide +kernel
theorem dX2_read_42 : decode cX2_read 42 = .ok (.ireturn, 1) := by decide +kernel
theorem dX2_read_43 : decode cX2_read 43 = .ok (.aload_n 0, 1) := by decide +kernel
theorem dX2_read_44 : decode cX2_read 44 = .ok (.invokevirtual 28, 3) := by decide +kernel
theorem dX2_read_47 : decode cX2_read 47 = .ok (.aload_n 2, 1) := by decide +kernel
theorem dX2_read_48 : decode cX2_read 48 = .ok (.iload_n 3, 1) := by decide +kernel
theorem dX2_read_49 : decode cX2_read 49 = .ok (.aload_n 0, 1) := by decide +kernel
theorem dX2_read_50 : decode cX2_read 50 = .ok (.getfield 22, 3) := by decide +kernel
theorem dX2_read_53 : decode cX2_read 53 = .ok (.iastore, 1) := by decide +kernel
theorem dX2_read_54 : decode cX2_read 54 = .ok (.aload_n 0, 1) := by decide +kernel
theorem dX2_read_55 : decode cX2_read 55 = .ok (.iconst 0, 1) := by decide +kernel
theorem dX2_read_56 : decode cX2_read 56 = .ok (.invokevirtual 39, 3) := by decide +kernel
theorem dX2_read_59 : decode cX2_read 59 = .ok (.ifCond .eq 12, 3) := by decide +kernel
theorem dX2_read_62 : decode cX2_read 62 = .ok (.aload_n 0, 1) := by decide +kernel
theorem dX2_read_63 : decode cX2_read 63 = .ok (.getfield 33, 3) := by decide +kernel
theorem dX2_read_66 : decode cX2_read 66 = .ok (.bipush 59, 2) := by decide +kernel
theorem dX2_read_68 : decode cX2_read 68 = .ok (.if_icmp .eq 8, 3) := by decide +kernel
theorem dX2_read_71 : decode cX2_read 71 = .ok (.aload_n 0, 1) := by decide +kernel
theorem dX2_read_72 : decode cX2_read 72 = .ok (.getfield 36, 3) := by decide +kernel
theorem dX2_read_75 : decode cX2_read 75 = .ok (.ireturn, 1) := by decide +kernel
theorem dX2_read_76 : decode cX2_read 76 = .ok (.aload_n 0, 1) := by decide +kernel
theorem dX2_read_77 : decode cX2_read 77 = .ok (.sipush 10019, 3) := by decide +kernel
theorem dX2_read_80 : decode cX2_read 80 = .ok (.invokevirtual 43, 3) := by decide +kernel
theorem dX2_read_83 : decode cX2_read 83 = .ok (.aload_n 0, 1) := by decide +kernel
theorem dX2_read_84 : decode cX2_read 84 = .ok (.invokevirtual 28, 3) := by decide +kernel
theorem dX2_read_87 : decode cX2_read 87 = .ok (.iinc 3 1, 3) := by decide +kernel
theorem dX2_read_90 : decode cX2_read 90 = .ok (.goto (-69), 3) := by decide +kernel
theorem dX2_read_93 : decode cX2_read 93 = .ok (.aload_n 0, 1) := by decide +kernel
theorem dX2_read_94 : decode cX2_read 94 = .ok (.getfield 33, 3) := by decide +kernel
theorem dX2_read_97 : decode cX2_read 97 = .ok (.ifCond .ne 7, 3) := by decide +kernel
theorem dX2_read_100 : decode cX2_read 100 = .ok (.iconst (-1), 1) := by decide +kernel
theorem dX2_read_101 : decode cX2_read 101 = .ok (.goto 7, 3) := by decide +kernel
theorem dX2_read_104 : decode cX2_read 104 = .ok (.aload_n 0, 1) := by decide +kernel
theorem dX2_read_105 : decode cX2_read 105 = .ok (.getfield 36, 3) := by decide +kernel
theorem dX2_read_108 : decode cX2_read 108 = .ok (.ireturn, 1) := by decide +kernel
theorem dX2_either_0 : decode cX2_either 0 = .ok (.aload_n 0, 1) := by decide +kernel
theorem dX2_either_1 : decode cX2_either 1 = .ok (.iload_n 1, 1) := by decide +kernel
theorem dX2_either_2 : decode cX2_either 2 = .ok (.invokevirtual 47, 3) := by decide +kernel
theorem dX2_either_5 : decode cX2_either 5 = .ok (.istore_n 2, 1) := by decide +kernel
theorem dX2_either_6 : decode cX2_either 6 = .ok (.iconst 0, 1) := by decide +kernel
theorem dX2_either_7 : decode cX2_either 7 = .ok (.istore_n 3, 1) := by decide +kernel
theorem dX2_either_8 : decode cX2_either 8 = .ok (.iload_n 3, 1) := by decide +kernel
theorem dX2_either_9 : decode cX2_either 9 = .ok (.sipush 160, 3) := by decide +kernel
theorem dX2_either_12 : decode cX2_either 12 = .ok (.if_icmp .ge 40, 3) := by decide +kernel
theorem dX2_either_15 : decode cX2_either 15 = .ok (.iload_n 2, 1) := by decide +kernel
theorem dX2_either_16 : decode cX2_either 16 = .ok (.ifCond .eq 36, 3) := by decide +kernel
theorem dX2_either_19 : decode cX2_either 19 = .ok (.aload_n 0, 1) := by decide +kernel
theorem dX2_either_20 : decode cX2_either 20 = .ok (.getfield 33, 3) := by decide +kernel
theorem dX2_either_23 : decode cX2_either 23 = .ok (.sipush 259, 3) := by decide +kernel
theorem dX2_either_26 : decode cX2_either 26 = .ok (.if_icmp .ne 26, 3) := by decide +kernel
theorem dX2_either_29 : decode cX2_either 29 = .ok (.aload_n 0, 1) := by decide +kernel
theorem dX2_either_30 : decode cX2_either 30 = .ok (.invokevirtual 28, 3) := by decide +kernel
theorem dX2_either_33 : decode cX2_either 33 = .ok (.aload_n 0, 1) := by decide +kernel
theorem dX2_either_34 : decode cX2_either 34 = .ok (.iload_n 1, 1) := by decide +kernel
theorem dX2_either_35 : decode cX2_either 35 = .ok (.invokevirtual 47, 3) := by decide +kernel
theorem dX2_either_38 : decode cX2_either 38 = .ok (.istore_n 2, 1) := by decide +kernel
theorem dX2_either_39 : decode cX2_either 39 = .ok (.aload_n 0, 1) := by decide +kernel
theorem dX2_either_40 : decode cX2_either 40 = .ok (.sipush 10018, 3) := by decide +kernel
theorem dX2_either_43 : decode cX2_either 43 = .ok (.invokevirtual 43, 3) := by decide +kernel
theorem dX2_either_46 : decode cX2_either 46 = .ok (.iinc 3 1, 3) := by decide +kernel
theorem dX2_either_49 : decode cX2_either 49 = .ok (.goto (-41), 3) := by decide +kernel
theorem dX2_either_52 : decode cX2_either 52 = .ok (.iload_n 2, 1) := by decide +kernel
theorem dX2_either_53 : decode cX2_either 53 = .ok (.ireturn, 1) := by decide +kernel
theorem dX2_both_0 : decode cX2_both 0 = .ok (.aload_n 0, 1) := by decide +kernel
theorem dX2_both_1 : decode cX2_both 1 = .ok (.iload_n 1, 1) := by decide +kernel
theorem dX2_both_2 : decode cX2_both 2 = .ok (.invokevirtual 50, 3) := by decide +kernel
theorem dX2_both_5 : decode cX2_both 5 = .ok (.istore_n 2, 1) := by decide +kernel
theorem dX2_both_6 : decode cX2_both 6 = .ok (.iconst 0, 1) := by decide +kernel
theorem dX2_both_7 : decode cX2_both 7 = .ok (.istore_n 3, 1) := by decide +kernel
theorem dX2_both_8 : decode cX2_both 8 = .ok (.iload_n 3, 1) := by decide +kernel
theorem dX2_both_9 : decode cX2_both 9 = .ok (.sipush 160, 3) := by decide +kernel
theorem dX2_both_12 : decode cX2_both 12 = .ok (.if_icmp .ge 40, 3) := by decide +kernel
theorem dX2_both_15 : decode cX2_both 15 = .ok (.iload_n 2, 1) := by decide +kernel
theorem dX2_both_16 : decode cX2_both 16 = .ok (.ifCond .eq 36, 3) := by decide +kernel
theorem dX2_both_19 : decode cX2_both 19 = .ok (.aload_n 0, 1) := by decide +kernel
theorem dX2_both_20 : decode cX2_both 20 = .ok (.getfield 33, 3) := by decide +kernel
theorem dX2_both_23 : decode cX2_both 23 = .ok (.sipush 260, 3) := by decide +kernel
theorem dX2_both_26 : decode cX2_both 26 = .ok (.if_icmp .ne 26, 3) := by decide +kernel
theorem dX2_both_29 : decode cX2_both 29 = .ok (.aload_n 0, 1) := by decide +kernel
theorem dX2_both_30 : decode cX2_both 30 = .ok (.invokevirtual 28, 3) := by decide +kernel
theorem dX2_both_33 : decode cX2_both 33 = .ok (.aload_n 0, 1) := by decide +kernel
theorem dX2_both_34 : decode cX2_both 34 = .ok (.iload_n 1, 1) := by decide +kernel
theorem dX2_both_35 : decode cX2_both 35 = .ok (.invokevirtual 50, 3) := by decide +kernel
theorem dX2_both_38 : decode cX2_both 38 = .ok (.istore_n 2, 1) := by decide +kernel
theorem dX2_both_39 : decode cX2_both 39 = .ok (.aload_n 0, 1) := by decide +kernel
theorem dX2_both_40 : decode cX2_both 40 = .ok (.sipush 10017, 3) := by decide +kernel
theorem dX2_both_43 : decode cX2_both 43 = .ok (.invokevirtual 43, 3) := by decide +kernel
theorem dX2_both_46 : decode cX2_both 46 = .ok (.iinc 3 1, 3) := by decide +kernel
theorem dX2_both_49 : decode cX2_both 49 = .ok (.goto (-41), 3) := by decide +kernel
theorem dX2_both_52 : decode cX2_both 52 = .ok (.iload_n 2, 1) := by decide +kernel
theorem dX2_both_53 : decode cX2_both 53 = .ok (.ireturn, 1) := by decide +kernel
theorem dX2_negation_0 : decode cX2_negation 0 = .ok (.aload_n 0, 1) := by decide +kernel
theorem dX2_negation_1 : decode cX2_negation 1 = .ok (.getfield 33, 3) := by decide +kernel
theorem dX2_negation_4 : decode cX2_negation 4 = .ok (.sipush 261, 3) := by decide +kernel
theorem dX2_negation_7 : decode cX2_negation 7 = .ok (.if_icmp .eq 9, 3) := by decide +kernel
theorem dX2_negation_10 : decode cX2_negation 10 = .ok (.aload_n 0, 1) := by decide +kernel
theorem dX2_negation_11 : decode cX2_negation 11 = .ok (.iload_n 1, 1) := by decide +kernel
theorem dX2_negation_12 : decode cX2_negation 12 = .ok (.invokevirtual 53, 3) := by decide +kernel
theorem dX2_negation_15 : decode cX2_negation 15 = .ok (.ireturn, 1) := by decide +kernel
theorem dX2_negation_16 : decode cX2_negation 16 = .ok (.iload_n 1, 1) := by decide +kernel
theorem dX2_negation_17 : decode cX2_negation 17 = .ok (.iconst 5, 1) := by decide +kernel
theorem dX2_negation_18 : decode cX2_negation 18 = .ok (.if_icmp .lt 5, 3) := by decide +kernel
theorem dX2_negation_21 : decode cX2_negation 21 = .ok (.iconst 0, 1) := by decide +kernel
theorem dX2_negation_22 : decode cX2_negation 22 = .ok (.ireturn, 1) := by decide +kernel
theorem dX2_negation_23 : decode cX2_negation 23 = .ok (.aload_n 0, 1) := by decide +kernel
theorem dX2_negation_24 : decode cX2_negation 24 = .ok (.invokevirtual 28, 3) := by decide +kernel
theorem dX2_negation_27 : decode cX2_negation 27 = .ok (.aload_n 0, 1) := by decide +kernel
theorem dX2_negation_28 : decode cX2_negation 28 = .ok (.iload_n 1, 1) := by decide +kernel
theorem dX2_negation_29 : decode cX2_negation 29 = .ok (.iconst 1, 1) := by decide +kernel
theorem dX2_negation_30 : decode cX2_negation 30 = .ok (.iadd, 1) := by decide +kernel
theorem dX2_negation_31 : decode cX2_negation 31 = .ok (.invokevirtual 50, 3) := by decide +kernel
theorem dX2_negation_34 : decode cX2_negation 34 = .ok (.istore_n 2, 1) := by decide +kernel
theorem dX2_negation_35 : decode cX2_negation 35 = .ok (.aload_n 0, 1) := by decide +kernel
theorem dX2_negation_36 : decode cX2_negation 36 = .ok (.sipush 10011, 3) := by decide +kernel
theorem dX2_negation_39 : decode cX2_negation 39 = .ok (.invokevirtual 43, 3) := by decide +kernel
theorem dX2_negation_42 : decode cX2_negation 42 = .ok (.iload_n 2, 1) := by decide +kernel
theorem dX2_negation_43 : decode cX2_negation 43 = .ok (.ireturn, 1) := by decide +kernel
theorem dX2_comparison_0 : decode cX2_comparison 0 = .ok (.aload_n 0, 1) := by decide +kernel
theorem dX2_comparison_1 : decode cX2_comparison 1 = .ok (.iload_n 1, 1) := by decide +kernel
theorem dX2_comparison_2 : decode cX2_comparison 2 = .ok (.invokevirtual 56, 3) := by decide +kernel
theorem dX2_comparison_5 : decode cX2_comparison 5 = .ok (.istore_n 2, 1) := by decide +kernel
theorem dX2_comparison_6 : decode cX2_comparison 6 = .ok (.iload_n 2, 1) := by decide +kernel
theorem dX2_comparison_7 : decode cX2_comparison 7 = .ok (.ifCond .eq 21, 3) := by decide +kernel
theorem dX2_comparison_10 : decode cX2_comparison 10 = .ok (.aload_n 0, 1) := by decide +kernel
theorem dX2_comparison_11 : decode cX2_comparison 11 = .ok (.getfield 33, 3) := by decide +kernel
theorem dX2_comparison_14 : decode cX2_comparison 14 = .ok (.bipush 60, 2) := by decide +kernel
theorem dX2_comparison_16 : decode cX2_comparison 16 = .ok (.if_icmp .eq 14, 3) := by decide +kernel
theorem dX2_comparison_19 : decode cX2_comparison 19 = .ok (.aload_n 0, 1) := by decide +kernel
theorem dX2_comparison_20 : decode cX2_comparison 20 = .ok (.getfield 33, 3) := by decide +kernel
theorem dX2_comparison_23 : decode cX2_comparison 23 = .ok (.bipush 61, 2) := by decide +kernel
theorem dX2_comparison_25 : decode cX2_comparison 25 = .ok (.if_icmp .eq 5, 3) := by decide +kernel
theorem dX2_comparison_28 : decode cX2_comparison 28 = .ok (.iload_n 2, 1) := by decide +kernel
theorem dX2_comparison_29 : decode cX2_comparison 29 = .ok (.ireturn, 1) := by decide +kernel
theorem dX2_comparison_30 : decode cX2_comparison 30 = .ok (.aload_n 0, 1) := by decide +kernel
theorem dX2_comparison_31 : decode cX2_comparison 31 = .ok (.getfield 33, 3) := by decide +kernel
theorem dX2_comparison_34 : decode cX2_comparison 34 = .ok (.bipush 60, 2) := by decide +kernel
theorem dX2_comparison_36 : decode cX2_comparison 36 = .ok (.if_icmp .ne 9, 3) := by decide +kernel
theorem dX2_comparison_39 : decode cX2_comparison 39 = .ok (.sipush 10015, 3) := by decide +kernel
theorem dX2_comparison_42 : decode cX2_comparison 42 = .ok (.goto 6, 3) := by decide +kernel
theorem dX2_comparison_45 : decode cX2_comparison 45 = .ok (.sipush 10016, 3) := by decide +kernel
theorem dX2_comparison_48 : decode cX2_comparison 48 = .ok (.istore_n 3, 1) := by decide +kernel
theorem dX2_comparison_49 : decode cX2_comparison 49 = .ok (.aload_n 0, 1) := by decide +kernel
theorem dX2_comparison_50 : decode cX2_comparison 50 = .ok (.invokevirtual 28, 3) := by decide +kernel
theorem dX2_comparison_53 : decode cX2_comparison 53 = .ok (.aload_n 0, 1) := by decide +kernel
theorem dX2_comparison_54 : decode cX2_comparison 54 = .ok (.iload_n 1, 1) := by decide +kernel
theorem dX2_comparison_55 : decode cX2_comparison 55 = .ok (.invokevirtual 56, 3) := by decide +kernel
theorem dX2_comparison_58 : decode cX2_comparison 58 = .ok (.istore_n 2, 1) := by decide +kernel
theorem dX2_comparison_59 : decode cX2_comparison 59 = .ok (.aload_n 0, 1) := by decide +kernel
theorem dX2_comparison_60 : decode cX2_comparison 60 = .ok (.iload_n 3, 1) := by decide +kernel
theorem dX2_comparison_61 : decode cX2_comparison 61 = .ok (.invokevirtual 43, 3) := by decide +kernel
theorem dX2_comparison_64 : decode cX2_comparison 64 = .ok (.iload_n 2, 1) := by decide +kernel
theorem dX2_comparison_65 : decode cX2_comparison 65 = .ok (.ireturn, 1) := by decide +kernel
theorem dX2_sum_0 : decode cX2_sum 0 = .ok (.aload_n 0, 1) := by decide +kernel
theorem dX2_sum_1 : decode cX2_sum 1 = .ok (.iload_n 1, 1) := by decide +kernel
theorem dX2_sum_2 : decode cX2_sum 2 = .ok (.invokevirtual 59, 3) := by decide +kernel
theorem dX2_sum_5 : decode cX2_sum 5 = .ok (.istore_n 2, 1) := by decide +kernel
theorem dX2_sum_6 : decode cX2_sum 6 = .ok (.iconst 0, 1) := by decide +kernel
theorem dX2_sum_7 : decode cX2_sum 7 = .ok (.istore_n 3, 1) := by decide +kernel
theorem dX2_sum_8 : decode cX2_sum 8 = .ok (.iload_n 3, 1) := by decide +kernel
theorem dX2_sum_9 : decode cX2_sum 9 = .ok (.sipush 160, 3) := by decide +kernel
theorem dX2_sum_12 : decode cX2_sum 12 = .ok (.if_icmp .ge 67, 3) := by decide +kernel
theorem dX2_sum_15 : decode cX2_sum 15 = .ok (.iload_n 2, 1) := by decide +kernel
theorem dX2_sum_16 : decode cX2_sum 16 = .ok (.ifCond .eq 63, 3) := by decide +kernel
theorem dX2_sum_19 : decode cX2_sum 19 = .ok (.aload_n 0, 1) := by decide +kernel
theorem dX2_sum_20 : decode cX2_sum 20 = .ok (.getfield 33, 3) := by decide +kernel
theorem dX2_sum_23 : decode cX2_sum 23 = .ok (.bipush 43, 2) := by decide +kernel
theorem dX2_sum_25 : decode cX2_sum 25 = .ok (.if_icmp .eq 12, 3) := by decide +kernel
theorem dX2_sum_28 : decode cX2_sum 28 = .ok (.aload_n 0, 1) := by decide +kernel
theorem dX2_sum_29 : decode cX2_sum 29 = .ok (.getfield 33, 3) := by decide +kernel
theorem dX2_sum_32 : decode cX2_sum 32 = .ok (.bipush 45, 2) := by decide +kernel
theorem dX2_sum_34 : decode cX2_sum 34 = .ok (.if_icmp .ne 45, 3) := by decide +kernel
theorem dX2_sum_37 : decode cX2_sum 37 = .ok (.aload_n 0, 1) := by decide +kernel
theorem dX2_sum_38 : decode cX2_sum 38 = .ok (.getfield 33, 3) := by decide +kernel
theorem dX2_sum_41 : decode cX2_sum 41 = .ok (.bipush 43, 2) := by decide +kernel
theorem dX2_sum_43 : decode cX2_sum 43 = .ok (.if_icmp .ne 9, 3) := by decide +kernel
theorem dX2_sum_46 : decode cX2_sum 46 = .ok (.sipush 10012, 3) := by decide +kernel
theorem dX2_sum_49 : decode cX2_sum 49 = .ok (.goto 6, 3) := by decide +kernel
theorem dX2_sum_52 : decode cX2_sum 52 = .ok (.sipush 10013, 3) := by decide +kernel
theorem dX2_sum_55 : decode cX2_sum 55 = .ok (.istore 4, 2) := by decide +kernel
theorem dX2_sum_57 : decode cX2_sum 57 = .ok (.aload_n 0, 1) := by decide +kernel
theorem dX2_sum_58 : decode cX2_sum 58 = .ok (.invokevirtual 28, 3) := by decide +kernel
theorem dX2_sum_61 : decode cX2_sum 61 = .ok (.aload_n 0, 1) := by decide +kernel
theorem dX2_sum_62 : decode cX2_sum 62 = .ok (.iload_n 1, 1) := by decide +kernel
theorem dX2_sum_63 : decode cX2_sum 63 = .ok (.invokevirtual 59, 3) := by decide +kernel
theorem dX2_sum_66 : decode cX2_sum 66 = .ok (.istore_n 2, 1) := by decide +kernel
theorem dX2_sum_67 : decode cX2_sum 67 = .ok (.aload_n 0, 1) := by decide +kernel
theorem dX2_sum_68 : decode cX2_sum 68 = .ok (.iload 4, 2) := by decide +kernel
theorem dX2_sum_70 : decode cX2_sum 70 = .ok (.invokevirtual 43, 3) := by decide +kernel
theorem dX2_sum_73 : decode cX2_sum 73 = .ok (.iinc 3 1, 3) := by decide +kernel
theorem dX2_sum_76 : decode cX2_sum 76 = .ok (.goto (-68), 3) := by decide +kernel
theorem dX2_sum_79 : decode cX2_sum 79 = .ok (.iload_n 2, 1) := by decide +kernel
theorem dX2_sum_80 : decode cX2_sum 80 = .ok (.ireturn, 1) := by decide +kernel
theorem dX2_term_0 : decode cX2_term 0 = .ok (.aload_n 0, 1) := by decide +kernel
theorem dX2_term_1 : decode cX2_term 1 = .ok (.iload_n 1, 1) := by decide +kernel
theorem dX2_term_2 : decode cX2_term 2 = .ok (.invokevirtual 62, 3) := by decide +kernel
theorem dX2_term_5 : decode cX2_term 5 = .ok (.istore_n 2, 1) := by decide +kernel
theorem dX2_term_6 : decode cX2_term 6 = .ok (.iconst 0, 1) := by decide +kernel
theorem dX2_term_7 : decode cX2_term 7 = .ok (.istore_n 3, 1) := by decide +kernel
theorem dX2_term_8 : decode cX2_term 8 = .ok (.iload_n 3, 1) := by decide +kernel
theorem dX2_term_9 : decode cX2_term 9 = .ok (.sipush 160, 3) := by decide +kernel
theorem dX2_term_12 : decode cX2_term 12 = .ok (.if_icmp .ge 39, 3) := by decide +kernel
theorem dX2_term_15 : decode cX2_term 15 = .ok (.iload_n 2, 1) := by decide +kernel
theorem dX2_term_16 : decode cX2_term 16 = .ok (.ifCond .eq 35, 3) := by decide +kernel
theorem dX2_term_19 : decode cX2_term 19 = .ok (.aload_n 0, 1) := by decide +kernel
theorem dX2_term_20 : decode cX2_term 20 = .ok (.getfield 33, 3) := by decide +kernel
theorem dX2_term_23 : decode cX2_term 23 = .ok (.bipush 42, 2) := by decide +kernel
theorem dX2_term_25 : decode cX2_term 25 = .ok (.if_icmp .ne 26, 3) := by decide +kernel
theorem dX2_term_28 : decode cX2_term 28 = .ok (.aload_n 0, 1) := by decide +kernel
theorem dX2_term_29 : decode cX2_term 29 = .ok (.invokevirtual 28, 3) := by decide +kernel
theorem dX2_term_32 : decode cX2_term 32 = .ok (.aload_n 0, 1) := by decide +kernel
theorem dX2_term_33 : decode cX2_term 33 = .ok (.iload_n 1, 1) := by decide +kernel
theorem dX2_term_34 : decode cX2_term 34 = .ok (.invokevirtual 62, 3) := by decide +kernel
theorem dX2_term_37 : decode cX2_term 37 = .ok (.istore_n 2, 1) := by decide +kernel
theorem dX2_term_38 : decode cX2_term 38 = .ok (.aload_n 0, 1) := by decide +kernel
theorem dX2_term_39 : decode cX2_term 39 = .ok (.sipush 10014, 3) := by decide +kernel
theorem dX2_term_42 : decode cX2_term 42 = .ok (.invokevirtual 43, 3) := by decide +kernel
theorem dX2_term_45 : decode cX2_term 45 = .ok (.iinc 3 1, 3) := by decide +kernel
theorem dX2_term_48 : decode cX2_term 48 = .ok (.goto (-40), 3) := by decide +kernel
theorem dX2_term_51 : decode cX2_term 51 = .ok (.iload_n 2, 1) := by decide +kernel
theorem dX2_term_52 : decode cX2_term 52 = .ok (.ireturn, 1) := by decide +kernel
theorem dX2_one_0 : decode cX2_one 0 = .ok (.aload_n 0, 1) := by decide +kernel
theorem dX2_one_1 : decode cX2_one 1 = .ok (.getfield 33, 3) := by decide +kernel
theorem dX2_one_4 : decode cX2_one 4 = .ok (.iconst 2, 1) := by decide +kernel
theorem dX2_one_5 : decode cX2_one 5 = .ok (.if_icmp .eq 11, 3) := by decide +kernel
theorem dX2_one_8 : decode cX2_one 8 = .ok (.aload_n 0, 1) := by decide +kernel
theorem dX2_one_9 : decode cX2_one 9 = .ok (.getfield 33, 3) := by decide +kernel
theorem dX2_one_12 : decode cX2_one 12 = .ok (.iconst 3, 1) := by decide +kernel
theorem dX2_one_13 : decode cX2_one 13 = .ok (.if_icmp .ne 17, 3) := by decide +kernel
theorem dX2_one_16 : decode cX2_one 16 = .ok (.aload_n 0, 1) := by decide +kernel
theorem dX2_one_17 : decode cX2_one 17 = .ok (.aload_n 0, 1) := by decide +kernel
theorem dX2_one_18 : decode cX2_one 18 = .ok (.getfield 65, 3) := by decide +kernel
theorem dX2_one_21 : decode cX2_one 21 = .ok (.invokevirtual 43, 3) := by decide +kernel
theorem dX2_one_24 : decode cX2_one 24 = .ok (.aload_n 0, 1) := by decide +kernel
theorem dX2_one_25 : decode cX2_one 25 = .ok (.invokevirtual 28, 3) := by decide +kernel
theorem dX2_one_28 : decode cX2_one 28 = .ok (.iconst 1, 1) := by decide +kernel
theorem dX2_one_29 : decode cX2_one 29 = .ok (.ireturn, 1) := by decide +kernel
theorem dX2_one_30 : decode cX2_one 30 = .ok (.aload_n 0, 1) := by decide +kernel
theorem dX2_one_31 : decode cX2_one 31 = .ok (.getfield 33, 3) := by decide +kernel
theorem dX2_one_34 : decode cX2_one 34 = .ok (.bipush 45, 2) := by decide +kernel
theorem dX2_one_36 : decode cX2_one 36 = .ok (.if_icmp .eq 12, 3) := by decide +kernel
theorem dX2_one_39 : decode cX2_one 39 = .ok (.aload_n 0, 1) := by decide +kernel
theorem dX2_one_40 : decode cX2_one 40 = .ok (.getfield 33, 3) := by decide +kernel
theorem dX2_one_43 : decode cX2_one 43 = .ok (.bipush 40, 2) := by decide +kernel
theorem dX2_one_45 : decode cX2_one 45 = .ok (.if_icmp .ne 8, 3) := by decide +kernel
theorem dX2_one_48 : decode cX2_one 48 = .ok (.iload_n 1, 1) := by decide +kernel
theorem dX2_one_49 : decode cX2_one 49 = .ok (.iconst 5, 1) := by decide +kernel
theorem dX2_one_50 : decode cX2_one 50 = .ok (.if_icmp .lt 5, 3) := by decide +kernel
theorem dX2_one_53 : decode cX2_one 53 = .ok (.iconst 0, 1) := by decide +kernel
theorem dX2_one_54 : decode cX2_one 54 = .ok (.ireturn, 1) := by decide +kernel
theorem dX2_one_55 : decode cX2_one 55 = .ok (.aload_n 0, 1) := by decide +kernel
theorem dX2_one_56 : decode cX2_one 56 = .ok (.getfield 33, 3) := by decide +kernel
theorem dX2_one_59 : decode cX2_one 59 = .ok (.bipush 45, 2) := by decide +kernel
theorem dX2_one_61 : decode cX2_one 61 = .ok (.if_icmp .ne 24, 3) := by decide +kernel
theorem dX2_one_64 : decode cX2_one 64 = .ok (.aload_n 0, 1) := by decide +kernel
theorem dX2_one_65 : decode cX2_one 65 = .ok (.invokevirtual 28, 3) := by decide +kernel
theorem dX2_one_68 : decode cX2_one 68 = .ok (.aload_n 0, 1) := by decide +kernel
theorem dX2_one_69 : decode cX2_one 69 = .ok (.iload_n 1, 1) := by decide +kernel
theorem dX2_one_70 : decode cX2_one 70 = .ok (.iconst 1, 1) := by decide +kernel
theorem dX2_one_71 : decode cX2_one 71 = .ok (.iadd, 1) := by decide +kernel
theorem dX2_one_72 : decode cX2_one 72 = .ok (.invokevirtual 62, 3) := by decide +kernel
theorem dX2_one_75 : decode cX2_one 75 = .ok (.istore_n 2, 1) := by decide +kernel
theorem dX2_one_76 : decode cX2_one 76 = .ok (.aload_n 0, 1) := by decide +kernel
theorem dX2_one_77 : decode cX2_one 77 = .ok (.sipush 10010, 3) := by decide +kernel
theorem dX2_one_80 : decode cX2_one 80 = .ok (.invokevirtual 43, 3) := by decide +kernel
theorem dX2_one_83 : decode cX2_one 83 = .ok (.iload_n 2, 1) := by decide +kernel
theorem dX2_one_84 : decode cX2_one 84 = .ok (.ireturn, 1) := by decide +kernel
theorem dX2_one_85 : decode cX2_one 85 = .ok (.aload_n 0, 1) := by decide +kernel
theorem dX2_one_86 : decode cX2_one 86 = .ok (.invokevirtual 28, 3) := by decide +kernel
theorem dX2_one_89 : decode cX2_one 89 = .ok (.aload_n 0, 1) := by decide +kernel
theorem dX2_one_90 : decode cX2_one 90 = .ok (.iload_n 1, 1) := by decide +kernel
theorem dX2_one_91 : decode cX2_one 91 = .ok (.iconst 1, 1) := by decide +kernel
theorem dX2_one_92 : decode cX2_one 92 = .ok (.iadd, 1) := by decide +kernel
theorem dX2_one_93 : decode cX2_one 93 = .ok (.invokevirtual 39, 3) := by decide +kernel
theorem dX2_one_96 : decode cX2_one 96 = .ok (.ifCond .eq 12, 3) := by decide +kernel
theorem dX2_one_99 : decode cX2_one 99 = .ok (.aload_n 0, 1) := by decide +kernel
theorem dX2_one_100 : decode cX2_one 100 = .ok (.getfield 33, 3) := by decide +kernel
theorem dX2_one_103 : decode cX2_one 103 = .ok (.bipush 41, 2) := by decide +kernel
theorem dX2_one_105 : decode cX2_one 105 = .ok (.if_icmp .eq 5, 3) := by decide +kernel
theorem dX2_one_108 : decode cX2_one 108 = .ok (.iconst 0, 1) := by decide +kernel
theorem dX2_one_109 : decode cX2_one 109 = .ok (.ireturn, 1) := by decide +kernel
theorem dX2_one_110 : decode cX2_one 110 = .ok (.aload_n 0, 1) := by decide +kernel
theorem dX2_one_111 : decode cX2_one 111 = .ok (.invokevirtual 28, 3) := by decide +kernel
theorem dX2_one_114 : decode cX2_one 114 = .ok (.iconst 1, 1) := by decide +kernel
theorem dX2_one_115 : decode cX2_one 115 = .ok (.ireturn, 1) := by decide +kernel
theorem dX2_emit_0 : decode cX2_emit 0 = .ok (.aload_n 0, 1) := by decide +kernel
theorem dX2_emit_1 : decode cX2_emit 1 = .ok (.getfield 19, 3) := by decide +kernel
theorem dX2_emit_4 : decode cX2_emit 4 = .ok (.ifnull 32, 3) := by decide +kernel
theorem dX2_emit_7 : decode cX2_emit 7 = .ok (.aload_n 0, 1) := by decide +kernel
theorem dX2_emit_8 : decode cX2_emit 8 = .ok (.getfield 22, 3) := by decide +kernel
theorem dX2_emit_11 : decode cX2_emit 11 = .ok (.aload_n 0, 1) := by decide +kernel
theorem dX2_emit_12 : decode cX2_emit 12 = .ok (.getfield 19, 3) := by decide +kernel
theorem dX2_emit_15 : decode cX2_emit 15 = .ok (.arraylength, 1) := by decide +kernel
theorem dX2_emit_16 : decode cX2_emit 16 = .ok (.if_icmp .ge 20, 3) := by decide +kernel
theorem dX2_emit_19 : decode cX2_emit 19 = .ok (.aload_n 0, 1) := by decide +kernel
theorem dX2_emit_20 : decode cX2_emit 20 = .ok (.getfield 19, 3) := by decide +kernel
theorem dX2_emit_23 : decode cX2_emit 23 = .ok (.aload_n 0, 1) := by decide +kernel
theorem dX2_emit_24 : decode cX2_emit 24 = .ok (.dup, 1) := by decide +kernel
theorem dX2_emit_25 : decode cX2_emit 25 = .ok (.getfield 22, 3) := by decide +kernel
theorem dX2_emit_28 : decode cX2_emit 28 = .ok (.dup_x1, 1) := by decide +kernel
theorem dX2_emit_29 : decode cX2_emit 29 = .ok (.iconst 1, 1) := by decide +kernel
theorem dX2_emit_30 : decode cX2_emit 30 = .ok (.iadd, 1) := by decide +kernel
theorem dX2_emit_31 : decode cX2_emit 31 = .ok (.putfield 22, 3) := by decide +kernel
theorem dX2_emit_34 : decode cX2_emit 34 = .ok (.iload_n 1, 1) := by decide +kernel
theorem dX2_emit_35 : decode cX2_emit 35 = .ok (.iastore, 1) := by decide +kernel
theorem dX2_emit_36 : decode cX2_emit 36 = .ok (.return_, 1) := by decide +kernel
theorem dX2_advance_0 : decode cX2_advance 0 = .ok (.aload_n 0, 1) := by decide +kernel
theorem dX2_advance_1 : decode cX2_advance 1 = .ok (.getfield 25, 3) := by decide +kernel
theorem dX2_advance_4 : decode cX2_advance 4 = .ok (.aload_n 0, 1) := by decide +kernel
theorem dX2_advance_5 : decode cX2_advance 5 = .ok (.getfield 15, 3) := by decide +kernel
theorem dX2_advance_8 : decode cX2_advance 8 = .ok (.if_icmp .ge 44, 3) := by decide +kernel
theorem dX2_advance_11 : decode cX2_advance 11 = .ok (.aload_n 0, 1) := by decide +kernel
theorem dX2_advance_12 : decode cX2_advance 12 = .ok (.getfield 9, 3) := by decide +kernel
theorem dX2_advance_15 : decode cX2_advance 15 = .ok (.aload_n 0, 1) := by decide +kernel
theorem dX2_advance_16 : decode cX2_advance 16 = .ok (.getfield 25, 3) := by decide +kernel
theorem dX2_advance_19 : decode cX2_advance 19 = .ok (.iaload, 1) := by decide +kernel
theorem dX2_advance_20 : decode cX2_advance 20 = .ok (.bipush 32, 2) := by decide +kernel
theorem dX2_advance_22 : decode cX2_advance 22 = .ok (.if_icmp .eq 17, 3) := by decide +kernel
theorem dX2_advance_25 : decode cX2_advance 25 = .ok (.aload_n 0, 1) := by decide +kernel
theorem dX2_advance_26 : decode cX2_advance 26 = .ok (.getfield 9, 3) := by decide +kernel
theorem dX2_advance_29 : decode cX2_advance 29 = .ok (.aload_n 0, 1) := by decide +kernel
theorem dX2_advance_30 : decode cX2_advance 30 = .ok (.getfield 25, 3) := by decide +kernel
theorem dX2_advance_33 : decode cX2_advance 33 = .ok (.iaload, 1) := by decide +kernel
theorem dX2_advance_34 : decode cX2_advance 34 = .ok (.bipush 10, 2) := by decide +kernel
theorem dX2_advance_36 : decode cX2_advance 36 = .ok (.if_icmp .ne 16, 3) := by decide +kernel
theorem dX2_advance_39 : decode cX2_advance 39 = .ok (.aload_n 0, 1) := by decide +kernel
theorem dX2_advance_40 : decode cX2_advance 40 = .ok (.dup, 1) := by decide +kernel
theorem dX2_advance_41 : decode cX2_advance 41 = .ok (.getfield 25, 3) := by decide +kernel
theorem dX2_advance_44 : decode cX2_advance 44 = .ok (.iconst 1, 1) := by decide +kernel
theorem dX2_advance_45 : decode cX2_advance 45 = .ok (.iadd, 1) := by decide +kernel
theorem dX2_advance_46 : decode cX2_advance 46 = .ok (.putfield 25, 3) := by decide +kernel
theorem dX2_advance_49 : decode cX2_advance 49 = .ok (.goto (-49), 3) := by decide +kernel
theorem dX2_advance_52 : decode cX2_advance 52 = .ok (.aload_n 0, 1) := by decide +kernel
theorem dX2_advance_53 : decode cX2_advance 53 = .ok (.aload_n 0, 1) := by decide +kernel
theorem dX2_advance_54 : decode cX2_advance 54 = .ok (.getfield 25, 3) := by decide +kernel
theorem dX2_advance_57 : decode cX2_advance 57 = .ok (.putfield 36, 3) := by decide +kernel
theorem dX2_advance_60 : decode cX2_advance 60 = .ok (.aload_n 0, 1) := by decide +kernel
theorem dX2_advance_61 : decode cX2_advance 61 = .ok (.getfield 25, 3) := by decide +kernel
theorem dX2_advance_64 : decode cX2_advance 64 = .ok (.aload_n 0, 1) := by decide +kernel
theorem dX2_advance_65 : decode cX2_advance 65 = .ok (.getfield 15, 3) := by decide +kernel
theorem dX2_advance_68 : decode cX2_advance 68 = .ok (.if_icmp .lt 11, 3) := by decide +kernel
theorem dX2_advance_71 : decode cX2_advance 71 = .ok (.aload_n 0, 1) := by decide +kernel
theorem dX2_advance_72 : decode cX2_advance 72 = .ok (.iconst 0, 1) := by decide +kernel
theorem dX2_advance_73 : decode cX2_advance 73 = .ok (.putfield 33, 3) := by decide +kernel
theorem dX2_advance_76 : decode cX2_advance 76 = .ok (.goto 89, 3) := by decide +kernel
theorem dX2_advance_79 : decode cX2_advance 79 = .ok (.aload_n 0, 1) := by decide +kernel
theorem dX2_advance_80 : decode cX2_advance 80 = .ok (.getfield 9, 3) := by decide +kernel
theorem dX2_advance_83 : decode cX2_advance 83 = .ok (.aload_n 0, 1) := by decide +kernel
theorem dX2_advance_84 : decode cX2_advance 84 = .ok (.getfield 25, 3) := by decide +kernel
theorem dX2_advance_87 : decode cX2_advance 87 = .ok (.iaload, 1) := by decide +kernel
theorem dX2_advance_88 : decode cX2_advance 88 = .ok (.invokestatic 68, 3) := by decide +kernel
theorem dX2_advance_91 : decode cX2_advance 91 = .ok (.ifCond .eq 10, 3) := by decide +kernel
theorem dX2_advance_94 : decode cX2_advance 94 = .ok (.aload_n 0, 1) := by decide +kernel
theorem dX2_advance_95 : decode cX2_advance 95 = .ok (.invokevirtual 71, 3) := by decide +kernel
theorem dX2_advance_98 : decode cX2_advance 98 = .ok (.goto 67, 3) := by decide +kernel
theorem dX2_advance_101 : decode cX2_advance 101 = .ok (.aload_n 0, 1) := by decide +kernel
theorem dX2_advance_102 : decode cX2_advance 102 = .ok (.getfield 9, 3) := by decide +kernel
theorem dX2_advance_105 : decode cX2_advance 105 = .ok (.aload_n 0, 1) := by decide +kernel
theorem dX2_advance_106 : decode cX2_advance 106 = .ok (.getfield 25, 3) := by decide +kernel
theorem dX2_advance_109 : decode cX2_advance 109 = .ok (.iaload, 1) := by decide +kernel
theorem dX2_advance_110 : decode cX2_advance 110 = .ok (.invokestatic 74, 3) := by decide +kernel
theorem dX2_advance_113 : decode cX2_advance 113 = .ok (.ifCond .eq 10, 3) := by decide +kernel
theorem dX2_advance_116 : decode cX2_advance 116 = .ok (.aload_n 0, 1) := by decide +kernel
theorem dX2_advance_117 : decode cX2_advance 117 = .ok (.invokevirtual 77, 3) := by decide +kernel
theorem dX2_advance_120 : decode cX2_advance 120 = .ok (.goto 45, 3) := by decide +kernel
theorem dX2_advance_123 : decode cX2_advance 123 = .ok (.aload_n 0, 1) := by decide +kernel
theorem dX2_advance_124 : decode cX2_advance 124 = .ok (.aload_n 0, 1) := by decide +kernel
theorem dX2_advance_125 : decode cX2_advance 125 = .ok (.getfield 9, 3) := by decide +kernel
theorem dX2_advance_128 : decode cX2_advance 128 = .ok (.aload_n 0, 1) := by decide +kernel
theorem dX2_advance_129 : decode cX2_advance 129 = .ok (.getfield 25, 3) := by decide +kernel
theorem dX2_advance_132 : decode cX2_advance 132 = .ok (.iaload, 1) := by decide +kernel
theorem dX2_advance_133 : decode cX2_advance 133 = .ok (.invokestatic 80, 3) := by decide +kernel
theorem dX2_advance_136 : decode cX2_advance 136 = .ok (.ifCond .eq 15, 3) := by decide +kernel
theorem dX2_advance_139 : decode cX2_advance 139 = .ok (.aload_n 0, 1) := by decide +kernel
theorem dX2_advance_140 : decode cX2_advance 140 = .ok (.getfield 9, 3) := by decide +kernel
theorem dX2_advance_143 : decode cX2_advance 143 = .ok (.aload_n 0, 1) := by decide +kernel
theorem dX2_advance_144 : decode cX2_advance 144 = .ok (.getfield 25, 3) := by decide +kernel
theorem dX2_advance_147 : decode cX2_advance 147 = .ok (.iaload, 1) := by decide +kernel
theorem dX2_advance_148 : decode cX2_advance 148 = .ok (.goto 4, 3) := by decide +kernel
theorem dX2_advance_151 : decode cX2_advance 151 = .ok (.iconst 1, 1) := by decide +kernel
theorem dX2_advance_152 : decode cX2_advance 152 = .ok (.putfield 33, 3) := by decide +kernel
theorem dX2_advance_155 : decode cX2_advance 155 = .ok (.aload_n 0, 1) := by decide +kernel
theorem dX2_advance_156 : decode cX2_advance 156 = .ok (.dup, 1) := by decide +kernel
theorem dX2_advance_157 : decode cX2_advance 157 = .ok (.getfield 25, 3) := by decide +kernel
theorem dX2_advance_160 : decode cX2_advance 160 = .ok (.iconst 1, 1) := by decide +kernel
theorem dX2_advance_161 : decode cX2_advance 161 = .ok (.iadd, 1) := by decide +kernel
theorem dX2_advance_162 : decode cX2_advance 162 = .ok (.putfield 25, 3) := by decide +kernel
theorem dX2_advance_165 : decode cX2_advance 165 = .ok (.return_, 1) := by decide +kernel
theorem dX2_advanceOverNumber_0 : decode cX2_advanceOverNumber 0 = .ok (.aload_n 0, 1) := by decide +kernel
theorem dX2_advanceOverNumber_1 : decode cX2_advanceOverNumber 1 = .ok (.iconst 0, 1) := by decide +kernel
theorem dX2_advanceOverNumber_2 : decode cX2_advanceOverNumber 2 = .ok (.putfield 65, 3) := by decide +kernel
theorem dX2_advanceOverNumber_5 : decode cX2_advanceOverNumber 5 = .ok (.aload_n 0, 1) := by decide +kernel
theorem dX2_advanceOverNumber_6 : decode cX2_advanceOverNumber 6 = .ok (.getfield 25, 3) := by decide +kernel
theorem dX2_advanceOverNumber_9 : decode cX2_advanceOverNumber 9 = .ok (.aload_n 0, 1) := by decide +kernel
theorem dX2_advanceOverNumber_10 : decode cX2_advanceOverNumber 10 = .ok (.getfield 15, 3) := by decide +kernel
theorem dX2_advanceOverNumber_13 : decode cX2_advanceOverNumber 13 = .ok (.if_icmp .ge 55, 3) := by decide +kernel
theorem dX2_advanceOverNumber_16 : decode cX2_advanceOverNumber 16 = .ok (.aload_n 0, 1) := by decide +kernel
theorem dX2_advanceOverNumber_17 : decode cX2_advanceOverNumber 17 = .ok (.getfield 9, 3) := by decide +kernel
theorem dX2_advanceOverNumber_20 : decode cX2_advanceOverNumber 20 = .ok (.aload_n 0, 1) := by decide +kernel
theorem dX2_advanceOverNumber_21 : decode cX2_advanceOverNumber 21 = .ok (.getfield 25, 3) := by decide +kernel
theorem dX2_advanceOverNumber_24 : decode cX2_advanceOverNumber 24 = .ok (.iaload, 1) := by decide +kernel
theorem dX2_advanceOverNumber_25 : decode cX2_advanceOverNumber 25 = .ok (.invokestatic 74, 3) := by decide +kernel
theorem dX2_advanceOverNumber_28 : decode cX2_advanceOverNumber 28 = .ok (.ifCond .eq 40, 3) := by decide +kernel
theorem dX2_advanceOverNumber_31 : decode cX2_advanceOverNumber 31 = .ok (.aload_n 0, 1) := by decide +kernel
theorem dX2_advanceOverNumber_32 : decode cX2_advanceOverNumber 32 = .ok (.aload_n 0, 1) := by decide +kernel
theorem dX2_advanceOverNumber_33 : decode cX2_advanceOverNumber 33 = .ok (.getfield 65, 3) := by decide +kernel
theorem dX2_advanceOverNumber_36 : decode cX2_advanceOverNumber 36 = .ok (.bipush 10, 2) := by decide +kernel
theorem dX2_advanceOverNumber_38 : decode cX2_advanceOverNumber 38 = .ok (.imul, 1) := by decide +kernel
theorem dX2_advanceOverNumber_39 : decode cX2_advanceOverNumber 39 = .ok (.aload_n 0, 1) := by decide +kernel
theorem dX2_advanceOverNumber_40 : decode cX2_advanceOverNumber 40 = .ok (.getfield 9, 3) := by decide +kernel
theorem dX2_advanceOverNumber_43 : decode cX2_advanceOverNumber 43 = .ok (.aload_n 0, 1) := by decide +kernel
theorem dX2_advanceOverNumber_44 : decode cX2_advanceOverNumber 44 = .ok (.getfield 25, 3) := by decide +kernel
theorem dX2_advanceOverNumber_47 : decode cX2_advanceOverNumber 47 = .ok (.iaload, 1) := by decide +kernel
theorem dX2_advanceOverNumber_48 : decode cX2_advanceOverNumber 48 = .ok (.iadd, 1) := by decide +kernel
theorem dX2_advanceOverNumber_49 : decode cX2_advanceOverNumber 49 = .ok (.bipush 48, 2) := by decide +kernel
theorem dX2_advanceOverNumber_51 : decode cX2_advanceOverNumber 51 = .ok (.isub, 1) := by decide +kernel
theorem dX2_advanceOverNumber_52 : decode cX2_advanceOverNumber 52 = .ok (.putfield 65, 3) := by decide +kernel
theorem dX2_advanceOverNumber_55 : decode cX2_advanceOverNumber 55 = .ok (.aload_n 0, 1) := by decide +kernel
theorem dX2_advanceOverNumber_56 : decode cX2_advanceOverNumber 56 = .ok (.dup, 1) := by decide +kernel
theorem dX2_advanceOverNumber_57 : decode cX2_advanceOverNumber 57 = .ok (.getfield 25, 3) := by decide +kernel
theorem dX2_advanceOverNumber_60 : decode cX2_advanceOverNumber 60 = .ok (.iconst 1, 1) := by decide +kernel
theorem dX2_advanceOverNumber_61 : decode cX2_advanceOverNumber 61 = .ok (.iadd, 1) := by decide +kernel
theorem dX2_advanceOverNumber_62 : decode cX2_advanceOverNumber 62 = .ok (.putfield 25, 3) := by decide +kernel
theorem dX2_advanceOverNumber_65 : decode cX2_advanceOverNumber 65 = .ok (.goto (-60), 3) := by decide +kernel
theorem dX2_advanceOverNumber_68 : decode cX2_advanceOverNumber 68 = .ok (.aload_n 0, 1) := by decide +kernel
theorem dX2_advanceOverNumber_69 : decode cX2_advanceOverNumber 69 = .ok (.aload_n 0, 1) := by decide +kernel
theorem dX2_advanceOverNumber_70 : decode cX2_advanceOverNumber 70 = .ok (.getfield 25, 3) := by decide +kernel
theorem dX2_advanceOverNumber_73 : decode cX2_advanceOverNumber 73 = .ok (.aload_n 0, 1) := by decide +kernel
theorem dX2_advanceOverNumber_74 : decode cX2_advanceOverNumber 74 = .ok (.getfield 36, 3) := by decide +kernel
theorem dX2_advanceOverNumber_77 : decode cX2_advanceOverNumber 77 = .ok (.isub, 1) := by decide +kernel
theorem dX2_advanceOverNumber_78 : decode cX2_advanceOverNumber 78 = .ok (.iconst 4, 1) := by decide +kernel
theorem dX2_advanceOverNumber_79 : decode cX2_advanceOverNumber 79 = .ok (.if_icmp .le 7, 3) := by decide +kernel
theorem dX2_advanceOverNumber_82 : decode cX2_advanceOverNumber 82 = .ok (.iconst 1, 1) := by decide +kernel
theorem dX2_advanceOverNumber_83 : decode cX2_advanceOverNumber 83 = .ok (.goto 4, 3) := by decide +kernel
theorem dX2_advanceOverNumber_86 : decode cX2_advanceOverNumber 86 = .ok (.iconst 2, 1) := by decide +kernel
theorem dX2_advanceOverNumber_87 : decode cX2_advanceOverNumber 87 = .ok (.putfield 33, 3) := by decide +kernel
theorem dX2_advanceOverNumber_90 : decode cX2_advanceOverNumber 90 = .ok (.return_, 1) := by decide +kernel
theorem dX2_advanceOverWord_0 : decode cX2_advanceOverWord 0 = .ok (.aload_n 0, 1) := by decide +kernel
theorem dX2_advanceOverWord_1 : decode cX2_advanceOverWord 1 = .ok (.getfield 25, 3) := by decide +kernel
theorem dX2_advanceOverWord_4 : decode cX2_advanceOverWord 4 = .ok (.aload_n 0, 1) := by decide +kernel
theorem dX2_advanceOverWord_5 : decode cX2_advanceOverWord 5 = .ok (.getfield 15, 3) := by decide +kernel
theorem dX2_advanceOverWord_8 : decode cX2_advanceOverWord 8 = .ok (.if_icmp .ge 31, 3) := by decide +kernel
theorem dX2_advanceOverWord_11 : decode cX2_advanceOverWord 11 = .ok (.aload_n 0, 1) := by decide +kernel
theorem dX2_advanceOverWord_12 : decode cX2_advanceOverWord 12 = .ok (.getfield 9, 3) := by decide +kernel
theorem dX2_advanceOverWord_15 : decode cX2_advanceOverWord 15 = .ok (.aload_n 0, 1) := by decide +kernel
theorem dX2_advanceOverWord_16 : decode cX2_advanceOverWord 16 = .ok (.getfield 25, 3) := by decide +kernel
theorem dX2_advanceOverWord_19 : decode cX2_advanceOverWord 19 = .ok (.iaload, 1) := by decide +kernel
theorem dX2_advanceOverWord_20 : decode cX2_advanceOverWord 20 = .ok (.invokestatic 68, 3) := by decide +kernel
theorem dX2_advanceOverWord_23 : decode cX2_advanceOverWord 23 = .ok (.ifCond .eq 16, 3) := by decide +kernel
theorem dX2_advanceOverWord_26 : decode cX2_advanceOverWord 26 = .ok (.aload_n 0, 1) := by decide +kernel
theorem dX2_advanceOverWord_27 : decode cX2_advanceOverWord 27 = .ok (.dup, 1) := by decide +kernel
theorem dX2_advanceOverWord_28 : decode cX2_advanceOverWord 28 = .ok (.getfield 25, 3) := by decide +kernel
theorem dX2_advanceOverWord_31 : decode cX2_advanceOverWord 31 = .ok (.iconst 1, 1) := by decide +kernel
theorem dX2_advanceOverWord_32 : decode cX2_advanceOverWord 32 = .ok (.iadd, 1) := by decide +kernel
theorem dX2_advanceOverWord_33 : decode cX2_advanceOverWord 33 = .ok (.putfield 25, 3) := by decide +kernel
theorem dX2_advanceOverWord_36 : decode cX2_advanceOverWord 36 = .ok (.goto (-36), 3) := by decide +kernel
theorem dX2_advanceOverWord_39 : decode cX2_advanceOverWord 39 = .ok (.aload_n 0, 1) := by decide +kernel
theorem dX2_advanceOverWord_40 : decode cX2_advanceOverWord 40 = .ok (.invokevirtual 83, 3) := by decide +kernel
theorem dX2_advanceOverWord_43 : decode cX2_advanceOverWord 43 = .ok (.istore_n 1, 1) := by decide +kernel
theorem dX2_advanceOverWord_44 : decode cX2_advanceOverWord 44 = .ok (.aload_n 0, 1) := by decide +kernel
theorem dX2_advanceOverWord_45 : decode cX2_advanceOverWord 45 = .ok (.sipush 10000, 3) := by decide +kernel
theorem dX2_advanceOverWord_48 : decode cX2_advanceOverWord 48 = .ok (.iload_n 1, 1) := by decide +kernel
theorem dX2_advanceOverWord_49 : decode cX2_advanceOverWord 49 = .ok (.iadd, 1) := by decide +kernel
theorem dX2_advanceOverWord_50 : decode cX2_advanceOverWord 50 = .ok (.putfield 65, 3) := by decide +kernel
theorem dX2_advanceOverWord_53 : decode cX2_advanceOverWord 53 = .ok (.aload_n 0, 1) := by decide +kernel
theorem dX2_advanceOverWord_54 : decode cX2_advanceOverWord 54 = .ok (.iload_n 1, 1) := by decide +kernel
theorem dX2_advanceOverWord_55 : decode cX2_advanceOverWord 55 = .ok (.iconst (-1), 1) := by decide +kernel
theorem dX2_advanceOverWord_56 : decode cX2_advanceOverWord 56 = .ok (.if_icmp .ne 10, 3) := by decide +kernel
theorem dX2_advanceOverWord_59 : decode cX2_advanceOverWord 59 = .ok (.aload_n 0, 1) := by decide +kernel
theorem dX2_advanceOverWord_60 : decode cX2_advanceOverWord 60 = .ok (.invokevirtual 87, 3) := by decide +kernel
theorem dX2_advanceOverWord_63 : decode cX2_advanceOverWord 63 = .ok (.goto 4, 3) := by decide +kernel
theorem dX2_advanceOverWord_66 : decode cX2_advanceOverWord 66 = .ok (.iconst 3, 1) := by decide +kernel
theorem dX2_advanceOverWord_67 : decode cX2_advanceOverWord 67 = .ok (.putfield 33, 3) := by decide +kernel
theorem dX2_advanceOverWord_70 : decode cX2_advanceOverWord 70 = .ok (.return_, 1) := by decide +kernel
theorem dX2_name_0 : decode cX2_name 0 = .ok (.aload_n 0, 1) := by decide +kernel
theorem dX2_name_1 : decode cX2_name 1 = .ok (.ldc 90, 2) := by decide +kernel
theorem dX2_name_3 : decode cX2_name 3 = .ok (.invokevirtual 92, 3) := by decide +kernel
theorem dX2_name_6 : decode cX2_name 6 = .ok (.ifCond .eq 5, 3) := by decide +kernel
theorem dX2_name_9 : decode cX2_name 9 = .ok (.iconst 0, 1) := by decide +kernel
theorem dX2_name_10 : decode cX2_name 10 = .ok (.ireturn, 1) := by decide +kernel
theorem dX2_name_11 : decode cX2_name 11 = .ok (.aload_n 0, 1) := by decide +kernel
theorem dX2_name_12 : decode cX2_name 12 = .ok (.ldc 96, 2) := by decide +kernel
theorem dX2_name_14 : decode cX2_name 14 = .ok (.invokevirtual 92, 3) := by decide +kernel
theorem dX2_name_17 : decode cX2_name 17 = .ok (.ifCond .eq 5, 3) := by decide +kernel
theorem dX2_name_20 : decode cX2_name 20 = .ok (.iconst 1, 1) := by decide +kernel
theorem dX2_name_21 : decode cX2_name 21 = .ok (.ireturn, 1) := by decide +kernel
theorem dX2_name_22 : decode cX2_name 22 = .ok (.aload_n 0, 1) := by decide +kernel
theorem dX2_name_23 : decode cX2_name 23 = .ok (.ldc 98, 2) := by decide +kernel
theorem dX2_name_25 : decode cX2_name 25 = .ok (.invokevirtual 92, 3) := by decide +kernel
theorem dX2_name_28 : decode cX2_name 28 = .ok (.ifCond .eq 5, 3) := by decide +kernel
theorem dX2_name_31 : decode cX2_name 31 = .ok (.iconst 2, 1) := by decide +kernel
theorem dX2_name_32 : decode cX2_name 32 = .ok (.ireturn, 1) := by decide +kernel
theorem dX2_name_33 : decode cX2_name 33 = .ok (.aload_n 0, 1) := by decide +kernel
theorem dX2_name_34 : decode cX2_name 34 = .ok (.ldc 100, 2) := by decide +kernel
theorem dX2_name_36 : decode cX2_name 36 = .ok (.invokevirtual 92, 3) := by decide +kernel
theorem dX2_name_39 : decode cX2_name 39 = .ok (.ifCond .eq 5, 3) := by decide +kernel
theorem dX2_name_42 : decode cX2_name 42 = .ok (.iconst 3, 1) := by decide +kernel
theorem dX2_name_43 : decode cX2_name 43 = .ok (.ireturn, 1) := by decide +kernel
theorem dX2_name_44 : decode cX2_name 44 = .ok (.aload_n 0, 1) := by decide +kernel
theorem dX2_name_45 : decode cX2_name 45 = .ok (.ldc 102, 2) := by decide +kernel
theorem dX2_name_47 : decode cX2_name 47 = .ok (.invokevirtual 92, 3) := by decide +kernel
theorem dX2_name_50 : decode cX2_name 50 = .ok (.ifCond .eq 5, 3) := by decide +kernel
theorem dX2_name_53 : decode cX2_name 53 = .ok (.iconst 4, 1) := by decide +kernel
theorem dX2_name_54 : decode cX2_name 54 = .ok (.ireturn, 1) := by decide +kernel
theorem dX2_name_55 : decode cX2_name 55 = .ok (.aload_n 0, 1) := by decide +kernel
theorem dX2_name_56 : decode cX2_name 56 = .ok (.ldc 104, 2) := by decide +kernel
theorem dX2_name_58 : decode cX2_name 58 = .ok (.invokevirtual 92, 3) := by decide +kernel
theorem dX2_name_61 : decode cX2_name 61 = .ok (.ifCond .eq 7, 3) := by decide +kernel
theorem dX2_name_64 : decode cX2_name 64 = .ok (.iconst 5, 1) := by decide +kernel
theorem dX2_name_65 : decode cX2_name 65 = .ok (.goto 4, 3) := by decide +kernel
theorem dX2_name_68 : decode cX2_name 68 = .ok (.iconst (-1), 1) := by decide +kernel
theorem dX2_name_69 : decode cX2_name 69 = .ok (.ireturn, 1) := by decide +kernel
theorem dX2_key_0 : decode cX2_key 0 = .ok (.aload_n 0, 1) := by decide +kernel
theorem dX2_key_1 : decode cX2_key 1 = .ok (.ldc 106, 2) := by decide +kernel
theorem dX2_key_3 : decode cX2_key 3 = .ok (.invokevirtual 92, 3) := by decide +kernel
theorem dX2_key_6 : decode cX2_key 6 = .ok (.ifCond .eq 7, 3) := by decide +kernel
theorem dX2_key_9 : decode cX2_key 9 = .ok (.sipush 256, 3) := by decide +kernel
theorem dX2_key_12 : decode cX2_key 12 = .ok (.ireturn, 1) := by decide +kernel
theorem dX2_key_13 : decode cX2_key 13 = .ok (.aload_n 0, 1) := by decide +kernel
theorem dX2_key_14 : decode cX2_key 14 = .ok (.ldc 108, 2) := by decide +kernel
theorem dX2_key_16 : decode cX2_key 16 = .ok (.invokevirtual 92, 3) := by decide +kernel
theorem dX2_key_19 : decode cX2_key 19 = .ok (.ifCond .eq 7, 3) := by decide +kernel
theorem dX2_key_22 : decode cX2_key 22 = .ok (.sipush 257, 3) := by decide +kernel
theorem dX2_key_25 : decode cX2_key 25 = .ok (.ireturn, 1) := by decide +kernel
theorem dX2_key_26 : decode cX2_key 26 = .ok (.aload_n 0, 1) := by decide +kernel
theorem dX2_key_27 : decode cX2_key 27 = .ok (.ldc 110, 2) := by decide +kernel
theorem dX2_key_29 : decode cX2_key 29 = .ok (.invokevirtual 92, 3) := by decide +kernel
theorem dX2_key_32 : decode cX2_key 32 = .ok (.ifCond .eq 7, 3) := by decide +kernel
theorem dX2_key_35 : decode cX2_key 35 = .ok (.sipush 258, 3) := by decide +kernel
theorem dX2_key_38 : decode cX2_key 38 = .ok (.ireturn, 1) := by decide +kernel
theorem dX2_key_39 : decode cX2_key 39 = .ok (.aload_n 0, 1) := by decide +kernel
theorem dX2_key_40 : decode cX2_key 40 = .ok (.ldc 112, 2) := by decide +kernel
theorem dX2_key_42 : decode cX2_key 42 = .ok (.invokevirtual 92, 3) := by decide +kernel
theorem dX2_key_45 : decode cX2_key 45 = .ok (.ifCond .eq 7, 3) := by decide +kernel
theorem dX2_key_48 : decode cX2_key 48 = .ok (.sipush 259, 3) := by decide +kernel
theorem dX2_key_51 : decode cX2_key 51 = .ok (.ireturn, 1) := by decide +kernel
theorem dX2_key_52 : decode cX2_key 52 = .ok (.aload_n 0, 1) := by decide +kernel
theorem dX2_key_53 : decode cX2_key 53 = .ok (.ldc 114, 2) := by decide +kernel
theorem dX2_key_55 : decode cX2_key 55 = .ok (.invokevirtual 92, 3) := by decide +kernel
theorem dX2_key_58 : decode cX2_key 58 = .ok (.ifCond .eq 7, 3) := by decide +kernel
theorem dX2_key_61 : decode cX2_key 61 = .ok (.sipush 260, 3) := by decide +kernel
theorem dX2_key_64 : decode cX2_key 64 = .ok (.ireturn, 1) := by decide +kernel
theorem dX2_key_65 : decode cX2_key 65 = .ok (.aload_n 0, 1) := by decide +kernel
theorem dX2_key_66 : decode cX2_key 66 = .ok (.ldc 116, 2) := by decide +kernel
theorem dX2_key_68 : decode cX2_key 68 = .ok (.invokevirtual 92, 3) := by decide +kernel
theorem dX2_key_71 : decode cX2_key 71 = .ok (.ifCond .eq 9, 3) := by decide +kernel
theorem dX2_key_74 : decode cX2_key 74 = .ok (.sipush 261, 3) := by decide +kernel
theorem dX2_key_77 : decode cX2_key 77 = .ok (.goto 4, 3) := by decide +kernel
theorem dX2_key_80 : decode cX2_key 80 = .ok (.iconst 1, 1) := by decide +kernel
theorem dX2_key_81 : decode cX2_key 81 = .ok (.ireturn, 1) := by decide +kernel
theorem dX2_isWord_0 : decode cX2_isWord 0 = .ok (.aload_n 0, 1) := by decide +kernel
theorem dX2_isWord_1 : decode cX2_isWord 1 = .ok (.getfield 25, 3) := by decide +kernel
theorem dX2_isWord_4 : decode cX2_isWord 4 = .ok (.aload_n 0, 1) := by decide +kernel
theorem dX2_isWord_5 : decode cX2_isWord 5 = .ok (.getfield 36, 3) := by decide +kernel
theorem dX2_isWord_8 : decode cX2_isWord 8 = .ok (.isub, 1) := by decide +kernel
theorem dX2_isWord_9 : decode cX2_isWord 9 = .ok (.aload_n 1, 1) := by decide +kernel
theorem dX2_isWord_10 : decode cX2_isWord 10 = .ok (.invokevirtual 118, 3) := by decide +kernel
theorem dX2_isWord_13 : decode cX2_isWord 13 = .ok (.if_icmp .ne 7, 3) := by decide +kernel
theorem dX2_isWord_16 : decode cX2_isWord 16 = .ok (.iconst 1, 1) := by decide +kernel
theorem dX2_isWord_17 : decode cX2_isWord 17 = .ok (.goto 4, 3) := by decide +kernel
theorem dX2_isWord_20 : decode cX2_isWord 20 = .ok (.iconst 0, 1) := by decide +kernel
theorem dX2_isWord_21 : decode cX2_isWord 21 = .ok (.istore_n 2, 1) := by decide +kernel
theorem dX2_isWord_22 : decode cX2_isWord 22 = .ok (.iconst 0, 1) := by decide +kernel
theorem dX2_isWord_23 : decode cX2_isWord 23 = .ok (.istore_n 3, 1) := by decide +kernel
theorem dX2_isWord_24 : decode cX2_isWord 24 = .ok (.iload_n 2, 1) := by decide +kernel
theorem dX2_isWord_25 : decode cX2_isWord 25 = .ok (.ifCond .eq 42, 3) := by decide +kernel
theorem dX2_isWord_28 : decode cX2_isWord 28 = .ok (.iload_n 3, 1) := by decide +kernel
theorem dX2_isWord_29 : decode cX2_isWord 29 = .ok (.aload_n 1, 1) := by decide +kernel
theorem dX2_isWord_30 : decode cX2_isWord 30 = .ok (.invokevirtual 118, 3) := by decide +kernel
theorem dX2_isWord_33 : decode cX2_isWord 33 = .ok (.if_icmp .ge 34, 3) := by decide +kernel
theorem dX2_isWord_36 : decode cX2_isWord 36 = .ok (.aload_n 0, 1) := by decide +kernel
theorem dX2_isWord_37 : decode cX2_isWord 37 = .ok (.getfield 9, 3) := by decide +kernel
theorem dX2_isWord_40 : decode cX2_isWord 40 = .ok (.aload_n 0, 1) := by decide +kernel
theorem dX2_isWord_41 : decode cX2_isWord 41 = .ok (.getfield 36, 3) := by decide +kernel
theorem dX2_isWord_44 : decode cX2_isWord 44 = .ok (.iload_n 3, 1) := by decide +kernel
theorem dX2_isWord_45 : decode cX2_isWord 45 = .ok (.iadd, 1) := by decide +kernel
theorem dX2_isWord_46 : decode cX2_isWord 46 = .ok (.iaload, 1) := by decide +kernel
theorem dX2_isWord_47 : decode cX2_isWord 47 = .ok (.aload_n 1, 1) := by decide +kernel
theorem dX2_isWord_48 : decode cX2_isWord 48 = .ok (.iload_n 3, 1) := by decide +kernel
theorem dX2_isWord_49 : decode cX2_isWord 49 = .ok (.invokevirtual 122, 3) := by decide +kernel
theorem dX2_isWord_52 : decode cX2_isWord 52 = .ok (.if_icmp .ne 7, 3) := by decide +kernel
theorem dX2_isWord_55 : decode cX2_isWord 55 = .ok (.iconst 1, 1) := by decide +kernel
theorem dX2_isWord_56 : decode cX2_isWord 56 = .ok (.goto 4, 3) := by decide +kernel
theorem dX2_isWord_59 : decode cX2_isWord 59 = .ok (.iconst 0, 1) := by decide +kernel
theorem dX2_isWord_60 : decode cX2_isWord 60 = .ok (.istore_n 2, 1) := by decide +kernel
theorem dX2_isWord_61 : decode cX2_isWord 61 = .ok (.iinc 3 1, 3) := by decide +kernel
theorem dX2_isWord_64 : decode cX2_isWord 64 = .ok (.goto (-40), 3) := by decide +kernel
theorem dX2_isWord_67 : decode cX2_isWord 67 = .ok (.iload_n 2, 1) := by decide +kernel
theorem dX2_isWord_68 : decode cX2_isWord 68 = .ok (.ireturn, 1) := by decide +kernel
theorem dX2_isLetter_0 : decode cX2_isLetter 0 = .ok (.iload_n 0, 1) := by decide +kernel
theorem dX2_isLetter_1 : decode cX2_isLetter 1 = .ok (.bipush 97, 2) := by decide +kernel
theorem dX2_isLetter_3 : decode cX2_isLetter 3 = .ok (.if_icmp .lt 13, 3) := by decide +kernel
theorem dX2_isLetter_6 : decode cX2_isLetter 6 = .ok (.iload_n 0, 1) := by decide +kernel
theorem dX2_isLetter_7 : decode cX2_isLetter 7 = .ok (.bipush 122, 2) := by decide +kernel
theorem dX2_isLetter_9 : decode cX2_isLetter 9 = .ok (.if_icmp .gt 7, 3) := by decide +kernel
theorem dX2_isLetter_12 : decode cX2_isLetter 12 = .ok (.iconst 1, 1) := by decide +kernel
theorem dX2_isLetter_13 : decode cX2_isLetter 13 = .ok (.goto 4, 3) := by decide +kernel
theorem dX2_isLetter_16 : decode cX2_isLetter 16 = .ok (.iconst 0, 1) := by decide +kernel
theorem dX2_isLetter_17 : decode cX2_isLetter 17 = .ok (.ireturn, 1) := by decide +kernel
theorem dX2_isDigit_0 : decode cX2_isDigit 0 = .ok (.iload_n 0, 1) := by decide +kernel
theorem dX2_isDigit_1 : decode cX2_isDigit 1 = .ok (.bipush 48, 2) := by decide +kernel
theorem dX2_isDigit_3 : decode cX2_isDigit 3 = .ok (.if_icmp .lt 13, 3) := by decide +kernel
theorem dX2_isDigit_6 : decode cX2_isDigit 6 = .ok (.iload_n 0, 1) := by decide +kernel
theorem dX2_isDigit_7 : decode cX2_isDigit 7 = .ok (.bipush 57, 2) := by decide +kernel
theorem dX2_isDigit_9 : decode cX2_isDigit 9 = .ok (.if_icmp .gt 7, 3) := by decide +kernel
theorem dX2_isDigit_12 : decode cX2_isDigit 12 = .ok (.iconst 1, 1) := by decide +kernel
theorem dX2_isDigit_13 : decode cX2_isDigit 13 = .ok (.goto 4, 3) := by decide +kernel
theorem dX2_isDigit_16 : decode cX2_isDigit 16 = .ok (.iconst 0, 1) := by decide +kernel
theorem dX2_isDigit_17 : decode cX2_isDigit 17 = .ok (.ireturn, 1) := by decide +kernel
theorem dX2_isSign_0 : decode cX2_isSign 0 = .ok (.iload_n 0, 1) := by decide +kernel
theorem dX2_isSign_1 : decode cX2_isSign 1 = .ok (.tableswitch 105 40 61 #[103, 103, 103, 103, 105, 103, 105, 105, 105, 105, 105, 105, 105, 105, 105, 105, 105, 105, 105, 103, 103, 103], 103) := by decide +kernel
theorem dX2_isSign_104 : decode cX2_isSign 104 = .ok (.iconst 1, 1) := by decide +kernel
theorem dX2_isSign_105 : decode cX2_isSign 105 = .ok (.ireturn, 1) := by decide +kernel
theorem dX2_isSign_106 : decode cX2_isSign 106 = .ok (.iconst 0, 1) := by decide +kernel
theorem dX2_isSign_107 : decode cX2_isSign 107 = .ok (.ireturn, 1) := by decide +kernel
theorem dX3_init_0 : decode cX3_init 0 = .ok (.aload_n 0, 1) := by decide +kernel
theorem dX3_init_1 : decode cX3_init 1 = .ok (.invokespecial 3, 3) := by decide +kernel
theorem dX3_init_4 : decode cX3_init 4 = .ok (.aload_n 0, 1) := by decide +kernel
theorem dX3_init_5 : decode cX3_init 5 = .ok (.aload_n 1, 1) := by decide +kernel
theorem dX3_init_6 : decode cX3_init 6 = .ok (.putfield 9, 3) := by decide +kernel
theorem dX3_init_9 : decode cX3_init 9 = .ok (.aload_n 0, 1) := by decide +kernel
theorem dX3_init_10 : decode cX3_init 10 = .ok (.aload_n 2, 1) := by decide +kernel
theorem dX3_init_11 : decode cX3_init 11 = .ok (.putfield 15, 3) := by decide +kernel
theorem dX3_init_14 : decode cX3_init 14 = .ok (.return_, 1) := by decide +kernel
theorem dX3_begin_0 : decode cX3_begin 0 = .ok (.aload_n 0, 1) := by decide +kernel
theorem dX3_begin_1 : decode cX3_begin 1 = .ok (.iconst (-1), 1) := by decide +kernel
theorem dX3_begin_2 : decode cX3_begin 2 = .ok (.putfield 19, 3) := by decide +kernel
theorem dX3_begin_5 : decode cX3_begin 5 = .ok (.aload_n 0, 1) := by decide +kernel
theorem dX3_begin_6 : decode cX3_begin 6 = .ok (.iload_n 1, 1) := by decide +kernel
theorem dX3_begin_7 : decode cX3_begin 7 = .ok (.putfield 23, 3) := by decide +kernel
theorem dX3_begin_10 : decode cX3_begin 10 = .ok (.return_, 1) := by decide +kernel
theorem dX3_offer_0 : decode cX3_offer 0 = .ok (.iload_n 2, 1) := by decide +kernel
theorem dX3_offer_1 : decode cX3_offer 1 = .ok (.aload_n 0, 1) := by decide +kernel
theorem dX3_offer_2 : decode cX3_offer 2 = .ok (.getfield 23, 3) := by decide +kernel
theorem dX3_offer_5 : decode cX3_offer 5 = .ok (.if_icmp .ge 13, 3) := by decide +kernel
theorem dX3_offer_8 : decode cX3_offer 8 = .ok (.aload_n 0, 1) := by decide +kernel
theorem dX3_offer_9 : decode cX3_offer 9 = .ok (.iload_n 1, 1) := by decide +kernel
theorem dX3_offer_10 : decode cX3_offer 10 = .ok (.putfield 19, 3) := by decide +kernel
theorem dX3_offer_13 : decode cX3_offer 13 = .ok (.aload_n 0, 1) := by decide +kernel
theorem dX3_offer_14 : decode cX3_offer 14 = .ok (.iload_n 2, 1) := by decide +kernel
theorem dX3_offer_15 : decode cX3_offer 15 = .ok (.putfield 23, 3) := by decide +kernel
theorem dX3_offer_18 : decode cX3_offer 18 = .ok (.return_, 1) := by decide +kernel
theorem dX3_bestOrder_0 : decode cX3_bestOrder 0 = .ok (.aload_n 0, 1) := by decide +kernel
theorem dX3_bestOrder_1 : decode cX3_bestOrder 1 = .ok (.getfield 9, 3) := by decide +kernel
theorem dX3_bestOrder_4 : decode cX3_bestOrder 4 = .ok (.aload_n 1, 1) := by decide +kernel
theorem dX3_bestOrder_5 : decode cX3_bestOrder 5 = .ok (.bipush 127, 2) := by decide +kernel
theorem dX3_bestOrder_7 : decode cX3_bestOrder 7 = .ok (.invokevirtual 26, 3) := by decide +kernel
theorem dX3_bestOrder_10 : decode cX3_bestOrder 10 = .ok (.aload_n 0, 1) := by decide +kernel
theorem dX3_bestOrder_11 : decode cX3_bestOrder 11 = .ok (.getfield 9, 3) := by decide +kernel
theorem dX3_bestOrder_14 : decode cX3_bestOrder 14 = .ok (.aload_n 1, 1) := by decide +kernel
theorem dX3_bestOrder_15 : decode cX3_bestOrder 15 = .ok (.invokevirtual 32, 3) := by decide +kernel
theorem dX3_bestOrder_18 : decode cX3_bestOrder 18 = .ok (.aload_n 0, 1) := by decide +kernel
theorem dX3_bestOrder_19 : decode cX3_bestOrder 19 = .ok (.aload_n 0, 1) := by decide +kernel
theorem dX3_bestOrder_20 : decode cX3_bestOrder 20 = .ok (.getfield 9, 3) := by decide +kernel
theorem dX3_bestOrder_23 : decode cX3_bestOrder 23 = .ok (.invokevirtual 36, 3) := by decide +kernel
theorem dX3_bestOrder_26 : decode cX3_bestOrder 26 = .ok (.putfield 19, 3) := by decide +kernel
theorem dX3_bestOrder_29 : decode cX3_bestOrder 29 = .ok (.aload_n 0, 1) := by decide +kernel
theorem dX3_bestOrder_30 : decode cX3_bestOrder 30 = .ok (.aload_n 0, 1) := by decide +kernel
theorem dX3_bestOrder_31 : decode cX3_bestOrder 31 = .ok (.getfield 9, 3) := by decide +kernel
theorem dX3_bestOrder_34 : decode cX3_bestOrder 34 = .ok (.aload_n 1, 1) := by decide +kernel
theorem dX3_bestOrder_35 : decode cX3_bestOrder 35 = .ok (.invokevirtual 40, 3) := by decide +kernel
theorem dX3_bestOrder_38 : decode cX3_bestOrder 38 = .ok (.putfield 23, 3) := by decide +kernel
theorem dX3_bestOrder_41 : decode cX3_bestOrder 41 = .ok (.aload_n 0, 1) := by decide +kernel
theorem dX3_bestOrder_42 : decode cX3_bestOrder 42 = .ok (.getfield 9, 3) := by decide +kernel
theorem dX3_bestOrder_45 : decode cX3_bestOrder 45 = .ok (.invokevirtual 44, 3) := by decide +kernel
theorem dX3_bestOrder_48 : decode cX3_bestOrder 48 = .ok (.istore_n 2, 1) := by decide +kernel
theorem dX3_bestOrder_49 : decode cX3_bestOrder 49 = .ok (.iconst 0, 1) := by decide +kernel
theorem dX3_bestOrder_50 : decode cX3_bestOrder 50 = .ok (.istore_n 3, 1) := by decide +kernel
theorem dX3_bestOrder_51 : decode cX3_bestOrder 51 = .ok (.iload_n 3, 1) := by decide +kernel
theorem dX3_bestOrder_52 : decode cX3_bestOrder 52 = .ok (.sipush 5040, 3) := by decide +kernel
theorem dX3_bestOrder_55 : decode cX3_bestOrder 55 = .ok (.if_icmp .ge 66, 3) := by decide +kernel
theorem dX3_bestOrder_58 : decode cX3_bestOrder 58 = .ok (.iload_n 2, 1) := by decide +kernel
theorem dX3_bestOrder_59 : decode cX3_bestOrder 59 = .ok (.iconst (-1), 1) := by decide +kernel
theorem dX3_bestOrder_60 : decode cX3_bestOrder 60 = .ok (.if_icmp .eq 61, 3) := by decide +kernel
theorem dX3_bestOrder_63 : decode cX3_bestOrder 63 = .ok (.aload_n 0, 1) := by decide +kernel
theorem dX3_bestOrder_64 : decode cX3_bestOrder 64 = .ok (.getfield 9, 3) := by decide +kernel
theorem dX3_bestOrder_67 : decode cX3_bestOrder 67 = .ok (.iload_n 2, 1) := by decide +kernel
theorem dX3_bestOrder_68 : decode cX3_bestOrder 68 = .ok (.invokevirtual 47, 3) := by decide +kernel
theorem dX3_bestOrder_71 : decode cX3_bestOrder 71 = .ok (.aload_n 0, 1) := by decide +kernel
theorem dX3_bestOrder_72 : decode cX3_bestOrder 72 = .ok (.getfield 9, 3) := by decide +kernel
theorem dX3_bestOrder_75 : decode cX3_bestOrder 75 = .ok (.aload_n 1, 1) := by decide +kernel
theorem dX3_bestOrder_76 : decode cX3_bestOrder 76 = .ok (.invokevirtual 40, 3) := by decide +kernel
theorem dX3_bestOrder_79 : decode cX3_bestOrder 79 = .ok (.istore 4, 2) := by decide +kernel
theorem dX3_bestOrder_81 : decode cX3_bestOrder 81 = .ok (.iload 4, 2) := by decide +kernel
theorem dX3_bestOrder_83 : decode cX3_bestOrder 83 = .ok (.aload_n 0, 1) := by decide +kernel
theorem dX3_bestOrder_84 : decode cX3_bestOrder 84 = .ok (.getfield 23, 3) := by decide +kernel
theorem dX3_bestOrder_87 : decode cX3_bestOrder 87 = .ok (.if_icmp .ge 20, 3) := by decide +kernel
theorem dX3_bestOrder_90 : decode cX3_bestOrder 90 = .ok (.aload_n 0, 1) := by decide +kernel
theorem dX3_bestOrder_91 : decode cX3_bestOrder 91 = .ok (.aload_n 0, 1) := by decide +kernel
theorem dX3_bestOrder_92 : decode cX3_bestOrder 92 = .ok (.getfield 9, 3) := by decide +kernel
theorem dX3_bestOrder_95 : decode cX3_bestOrder 95 = .ok (.invokevirtual 36, 3) := by decide +kernel
theorem dX3_bestOrder_98 : decode cX3_bestOrder 98 = .ok (.putfield 19, 3) := by decide +kernel
theorem dX3_bestOrder_101 : decode cX3_bestOrder 101 = .ok (.aload_n 0, 1) := by decide +kernel
theorem dX3_bestOrder_102 : decode cX3_bestOrder 102 = .ok (.iload 4, 2) := by decide +kernel
theorem dX3_bestOrder_104 : decode cX3_bestOrder 104 = .ok (.putfield 23, 3) := by decide +kernel
theorem dX3_bestOrder_107 : decode cX3_bestOrder 107 = .ok (.aload_n 0, 1) := by decide +kernel
theorem dX3_bestOrder_108 : decode cX3_bestOrder 108 = .ok (.getfield 9, 3) := by decide +kernel
theorem dX3_bestOrder_111 : decode cX3_bestOrder 111 = .ok (.invokevirtual 44, 3) := by decide +kernel
theorem dX3_bestOrder_114 : decode cX3_bestOrder 114 = .ok (.istore_n 2, 1) := by decide +kernel
theorem dX3_bestOrder_115 : decode cX3_bestOrder 115 = .ok (.iinc 3 1, 3) := by decide +kernel
theorem dX3_bestOrder_118 : decode cX3_bestOrder 118 = .ok (.goto (-67), 3) := by decide +kernel
theorem dX3_bestOrder_121 : decode cX3_bestOrder 121 = .ok (.return_, 1) := by decide +kernel
theorem dX3_swap_0 : decode cX3_swap 0 = .ok (.aload_n 0, 1) := by decide +kernel
theorem dX3_swap_1 : decode cX3_swap 1 = .ok (.getfield 9, 3) := by decide +kernel
theorem dX3_swap_4 : decode cX3_swap 4 = .ok (.aload_n 1, 1) := by decide +kernel
theorem dX3_swap_5 : decode cX3_swap 5 = .ok (.bipush 127, 2) := by decide +kernel
theorem dX3_swap_7 : decode cX3_swap 7 = .ok (.invokevirtual 26, 3) := by decide +kernel
theorem dX3_swap_10 : decode cX3_swap 10 = .ok (.aload_n 0, 1) := by decide +kernel
theorem dX3_swap_11 : decode cX3_swap 11 = .ok (.getfield 9, 3) := by decide +kernel
theorem dX3_swap_14 : decode cX3_swap 14 = .ok (.aload_n 1, 1) := by decide +kernel
theorem dX3_swap_15 : decode cX3_swap 15 = .ok (.invokevirtual 32, 3) := by decide +kernel
theorem dX3_swap_18 : decode cX3_swap 18 = .ok (.aload_n 0, 1) := by decide +kernel
theorem dX3_swap_19 : decode cX3_swap 19 = .ok (.aload_n 0, 1) := by decide +kernel
theorem dX3_swap_20 : decode cX3_swap 20 = .ok (.getfield 9, 3) := by decide +kernel
theorem dX3_swap_23 : decode cX3_swap 23 = .ok (.aload_n 1, 1) := by decide +kernel
theorem dX3_swap_24 : decode cX3_swap 24 = .ok (.invokevirtual 40, 3) := by decide +kernel
theorem dX3_swap_27 : decode cX3_swap 27 = .ok (.invokevirtual 51, 3) := by decide +kernel
theorem dX3_swap_30 : decode cX3_swap 30 = .ok (.iconst 0, 1) := by decide +kernel
theorem dX3_swap_31 : decode cX3_swap 31 = .ok (.istore_n 2, 1) := by decide +kernel
theorem dX3_swap_32 : decode cX3_swap 32 = .ok (.iload_n 2, 1) := by decide +kernel
theorem dX3_swap_33 : decode cX3_swap 33 = .ok (.aload_n 1, 1) := by decide +kernel
theorem dX3_swap_34 : decode cX3_swap 34 = .ok (.getfield 54, 3) := by decide +kernel
theorem dX3_swap_37 : decode cX3_swap 37 = .ok (.if_icmp .ge 71, 3) := by decide +kernel
theorem dX3_swap_40 : decode cX3_swap 40 = .ok (.iload_n 2, 1) := by decide +kernel
theorem dX3_swap_41 : decode cX3_swap 41 = .ok (.iconst 1, 1) := by decide +kernel
theorem dX3_swap_42 : decode cX3_swap 42 = .ok (.iadd, 1) := by decide +kernel
theorem dX3_swap_43 : decode cX3_swap 43 = .ok (.istore_n 3, 1) := by decide +kernel
theorem dX3_swap_44 : decode cX3_swap 44 = .ok (.iload_n 3, 1) := by decide +kernel
theorem dX3_swap_45 : decode cX3_swap 45 = .ok (.aload_n 1, 1) := by decide +kernel
theorem dX3_swap_46 : decode cX3_swap 46 = .ok (.getfield 54, 3) := by decide +kernel
theorem dX3_swap_49 : decode cX3_swap 49 = .ok (.if_icmp .ge 53, 3) := by decide +kernel
theorem dX3_swap_52 : decode cX3_swap 52 = .ok (.aload_n 0, 1) := by decide +kernel
theorem dX3_swap_53 : decode cX3_swap 53 = .ok (.getfield 9, 3) := by decide +kernel
theorem dX3_swap_56 : decode cX3_swap 56 = .ok (.iload_n 2, 1) := by decide +kernel
theorem dX3_swap_57 : decode cX3_swap 57 = .ok (.iload_n 3, 1) := by decide +kernel
theorem dX3_swap_58 : decode cX3_swap 58 = .ok (.invokevirtual 59, 3) := by decide +kernel
theorem dX3_swap_61 : decode cX3_swap 61 = .ok (.aload_n 0, 1) := by decide +kernel
theorem dX3_swap_62 : decode cX3_swap 62 = .ok (.getfield 9, 3) := by decide +kernel
theorem dX3_swap_65 : decode cX3_swap 65 = .ok (.aload_n 1, 1) := by decide +kernel
theorem dX3_swap_66 : decode cX3_swap 66 = .ok (.invokevirtual 32, 3) := by decide +kernel
theorem dX3_swap_69 : decode cX3_swap 69 = .ok (.aload_n 0, 1) := by decide +kernel
theorem dX3_swap_70 : decode cX3_swap 70 = .ok (.bipush 10, 2) := by decide +kernel
theorem dX3_swap_72 : decode cX3_swap 72 = .ok (.iload_n 2, 1) := by decide +kernel
theorem dX3_swap_73 : decode cX3_swap 73 = .ok (.imul, 1) := by decide +kernel
theorem dX3_swap_74 : decode cX3_swap 74 = .ok (.iload_n 3, 1) := by decide +kernel
theorem dX3_swap_75 : decode cX3_swap 75 = .ok (.iadd, 1) := by decide +kernel
theorem dX3_swap_76 : decode cX3_swap 76 = .ok (.aload_n 0, 1) := by decide +kernel
theorem dX3_swap_77 : decode cX3_swap 77 = .ok (.getfield 9, 3) := by decide +kernel
theorem dX3_swap_80 : decode cX3_swap 80 = .ok (.aload_n 1, 1) := by decide +kernel
theorem dX3_swap_81 : decode cX3_swap 81 = .ok (.invokevirtual 40, 3) := by decide +kernel
theorem dX3_swap_84 : decode cX3_swap 84 = .ok (.invokevirtual 63, 3) := by decide +kernel
theorem dX3_swap_87 : decode cX3_swap 87 = .ok (.aload_n 0, 1) := by decide +kernel
theorem dX3_swap_88 : decode cX3_swap 88 = .ok (.getfield 9, 3) := by decide +kernel
theorem dX3_swap_91 : decode cX3_swap 91 = .ok (.iload_n 2, 1) := by decide +kernel
theorem dX3_swap_92 : decode cX3_swap 92 = .ok (.iload_n 3, 1) := by decide +kernel
theorem dX3_swap_93 : decode cX3_swap 93 = .ok (.invokevirtual 59, 3) := by decide +kernel
theorem dX3_swap_96 : decode cX3_swap 96 = .ok (.iinc 3 1, 3) := by decide +kernel
theorem dX3_swap_99 : decode cX3_swap 99 = .ok (.goto (-55), 3) := by decide +kernel
theorem dX3_swap_102 : decode cX3_swap 102 = .ok (.iinc 2 1, 3) := by decide +kernel
theorem dX3_swap_105 : decode cX3_swap 105 = .ok (.goto (-73), 3) := by decide +kernel
theorem dX3_swap_108 : decode cX3_swap 108 = .ok (.return_, 1) := by decide +kernel
theorem dX3_without_0 : decode cX3_without 0 = .ok (.aload_n 0, 1) := by decide +kernel
theorem dX3_without_1 : decode cX3_without 1 = .ok (.getfield 9, 3) := by decide +kernel
theorem dX3_without_4 : decode cX3_without 4 = .ok (.aload_n 1, 1) := by decide +kernel
theorem dX3_without_5 : decode cX3_without 5 = .ok (.bipush 127, 2) := by decide +kernel
theorem dX3_without_7 : decode cX3_without 7 = .ok (.invokevirtual 26, 3) := by decide +kernel
theorem dX3_without_10 : decode cX3_without 10 = .ok (.aload_n 0, 1) := by decide +kernel
theorem dX3_without_11 : decode cX3_without 11 = .ok (.getfield 9, 3) := by decide +kernel
theorem dX3_without_14 : decode cX3_without 14 = .ok (.aload_n 1, 1) := by decide +kernel
theorem dX3_without_15 : decode cX3_without 15 = .ok (.invokevirtual 32, 3) := by decide +kernel
theorem dX3_without_18 : decode cX3_without 18 = .ok (.aload_n 0, 1) := by decide +kernel
theorem dX3_without_19 : decode cX3_without 19 = .ok (.aload_n 0, 1) := by decide +kernel
theorem dX3_without_20 : decode cX3_without 20 = .ok (.getfield 9, 3) := by decide +kernel
theorem dX3_without_23 : decode cX3_without 23 = .ok (.aload_n 1, 1) := by decide +kernel
theorem dX3_without_24 : decode cX3_without 24 = .ok (.invokevirtual 40, 3) := by decide +kernel
theorem dX3_without_27 : decode cX3_without 27 = .ok (.invokevirtual 51, 3) := by decide +kernel
theorem dX3_without_30 : decode cX3_without 30 = .ok (.iconst 0, 1) := by decide +kernel
theorem dX3_without_31 : decode cX3_without 31 = .ok (.istore_n 2, 1) := by decide +kernel
theorem dX3_without_32 : decode cX3_without 32 = .ok (.iload_n 2, 1) := by decide +kernel
theorem dX3_without_33 : decode cX3_without 33 = .ok (.aload_n 1, 1) := by decide +kernel
theorem dX3_without_34 : decode cX3_without 34 = .ok (.getfield 54, 3) := by decide +kernel
theorem dX3_without_37 : decode cX3_without 37 = .ok (.if_icmp .ge 46, 3) := by decide +kernel
theorem dX3_without_40 : decode cX3_without 40 = .ok (.aload_n 0, 1) := by decide +kernel
theorem dX3_without_41 : decode cX3_without 41 = .ok (.getfield 9, 3) := by decide +kernel
theorem dX3_without_44 : decode cX3_without 44 = .ok (.aload_n 1, 1) := by decide +kernel
theorem dX3_without_45 : decode cX3_without 45 = .ok (.bipush 127, 2) := by decide +kernel
theorem dX3_without_47 : decode cX3_without 47 = .ok (.iconst 1, 1) := by decide +kernel
theorem dX3_without_48 : decode cX3_without 48 = .ok (.iload_n 2, 1) := by decide +kernel
theorem dX3_without_49 : decode cX3_without 49 = .ok (.ishl, 1) := by decide +kernel
theorem dX3_without_50 : decode cX3_without 50 = .ok (.iconst (-1), 1) := by decide +kernel
theorem dX3_without_51 : decode cX3_without 51 = .ok (.ixor, 1) := by decide +kernel
theorem dX3_without_52 : decode cX3_without 52 = .ok (.iand, 1) := by decide +kernel
theorem dX3_without_53 : decode cX3_without 53 = .ok (.invokevirtual 26, 3) := by decide +kernel
theorem dX3_without_56 : decode cX3_without 56 = .ok (.aload_n 0, 1) := by decide +kernel
theorem dX3_without_57 : decode cX3_without 57 = .ok (.getfield 9, 3) := by decide +kernel
theorem dX3_without_60 : decode cX3_without 60 = .ok (.aload_n 1, 1) := by decide +kernel
theorem dX3_without_61 : decode cX3_without 61 = .ok (.invokevirtual 32, 3) := by decide +kernel
theorem dX3_without_64 : decode cX3_without 64 = .ok (.aload_n 0, 1) := by decide +kernel
theorem dX3_without_65 : decode cX3_without 65 = .ok (.iload_n 2, 1) := by decide +kernel
theorem dX3_without_66 : decode cX3_without 66 = .ok (.aload_n 0, 1) := by decide +kernel
theorem dX3_without_67 : decode cX3_without 67 = .ok (.getfield 9, 3) := by decide +kernel
theorem dX3_without_70 : decode cX3_without 70 = .ok (.aload_n 1, 1) := by decide +kernel
theorem dX3_without_71 : decode cX3_without 71 = .ok (.invokevirtual 40, 3) := by decide +kernel
theorem dX3_without_74 : decode cX3_without 74 = .ok (.invokevirtual 63, 3) := by decide +kernel
theorem dX3_without_77 : decode cX3_without 77 = .ok (.iinc 2 1, 3) := by decide +kernel
theorem dX3_without_80 : decode cX3_without 80 = .ok (.goto (-48), 3) := by decide +kernel
theorem dX3_without_83 : decode cX3_without 83 = .ok (.return_, 1) := by decide +kernel
theorem dX3_sprayed_0 : decode cX3_sprayed 0 = .ok (.aload_n 0, 1) := by decide +kernel
theorem dX3_sprayed_1 : decode cX3_sprayed 1 = .ok (.getfield 9, 3) := by decide +kernel
theorem dX3_sprayed_4 : decode cX3_sprayed 4 = .ok (.aload_n 1, 1) := by decide +kernel
theorem dX3_sprayed_5 : decode cX3_sprayed 5 = .ok (.bipush 127, 2) := by decide +kernel
theorem dX3_sprayed_7 : decode cX3_sprayed 7 = .ok (.invokevirtual 26, 3) := by decide +kernel
theorem dX3_sprayed_10 : decode cX3_sprayed 10 = .ok (.aload_n 0, 1) := by decide +kernel
theorem dX3_sprayed_11 : decode cX3_sprayed 11 = .ok (.getfield 9, 3) := by decide +kernel
theorem dX3_sprayed_14 : decode cX3_sprayed 14 = .ok (.aload_n 1, 1) := by decide +kernel
theorem dX3_sprayed_15 : decode cX3_sprayed 15 = .ok (.invokevirtual 32, 3) := by decide +kernel
theorem dX3_sprayed_18 : decode cX3_sprayed 18 = .ok (.aload_n 0, 1) := by decide +kernel
theorem dX3_sprayed_19 : decode cX3_sprayed 19 = .ok (.aload_n 0, 1) := by decide +kernel
theorem dX3_sprayed_20 : decode cX3_sprayed 20 = .ok (.getfield 9, 3) := by decide +kernel
theorem dX3_sprayed_23 : decode cX3_sprayed 23 = .ok (.aload_n 1, 1) := by decide +kernel
theorem dX3_sprayed_24 : decode cX3_sprayed 24 = .ok (.invokevirtual 40, 3) := by decide +kernel
theorem dX3_sprayed_27 : decode cX3_sprayed 27 = .ok (.invokevirtual 51, 3) := by decide +kernel
theorem dX3_sprayed_30 : decode cX3_sprayed 30 = .ok (.iconst 0, 1) := by decide +kernel
theorem dX3_sprayed_31 : decode cX3_sprayed 31 = .ok (.istore_n 2, 1) := by decide +kernel
theorem dX3_sprayed_32 : decode cX3_sprayed 32 = .ok (.iload_n 2, 1) := by decide +kernel
theorem dX3_sprayed_33 : decode cX3_sprayed 33 = .ok (.aload_n 1, 1) := by decide +kernel
theorem dX3_sprayed_34 : decode cX3_sprayed 34 = .ok (.getfield 54, 3) := by decide +kernel
theorem dX3_sprayed_37 : decode cX3_sprayed 37 = .ok (.if_icmp .ge 38, 3) := by decide +kernel
theorem dX3_sprayed_40 : decode cX3_sprayed 40 = .ok (.aload_n 0, 1) := by decide +kernel
theorem dX3_sprayed_41 : decode cX3_sprayed 41 = .ok (.getfield 9, 3) := by decide +kernel
theorem dX3_sprayed_44 : decode cX3_sprayed 44 = .ok (.iload_n 2, 1) := by decide +kernel
theorem dX3_sprayed_45 : decode cX3_sprayed 45 = .ok (.putfield 66, 3) := by decide +kernel
theorem dX3_sprayed_48 : decode cX3_sprayed 48 = .ok (.aload_n 0, 1) := by decide +kernel
theorem dX3_sprayed_49 : decode cX3_sprayed 49 = .ok (.getfield 9, 3) := by decide +kernel
theorem dX3_sprayed_52 : decode cX3_sprayed 52 = .ok (.aload_n 1, 1) := by decide +kernel
theorem dX3_sprayed_53 : decode cX3_sprayed 53 = .ok (.invokevirtual 32, 3) := by decide +kernel
theorem dX3_sprayed_56 : decode cX3_sprayed 56 = .ok (.aload_n 0, 1) := by decide +kernel
theorem dX3_sprayed_57 : decode cX3_sprayed 57 = .ok (.iload_n 2, 1) := by decide +kernel
theorem dX3_sprayed_58 : decode cX3_sprayed 58 = .ok (.aload_n 0, 1) := by decide +kernel
theorem dX3_sprayed_59 : decode cX3_sprayed 59 = .ok (.getfield 9, 3) := by decide +kernel
theorem dX3_sprayed_62 : decode cX3_sprayed 62 = .ok (.aload_n 1, 1) := by decide +kernel
theorem dX3_sprayed_63 : decode cX3_sprayed 63 = .ok (.invokevirtual 40, 3) := by decide +kernel
theorem dX3_sprayed_66 : decode cX3_sprayed 66 = .ok (.invokevirtual 63, 3) := by decide +kernel
theorem dX3_sprayed_69 : decode cX3_sprayed 69 = .ok (.iinc 2 1, 3) := by decide +kernel
theorem dX3_sprayed_72 : decode cX3_sprayed 72 = .ok (.goto (-40), 3) := by decide +kernel
theorem dX3_sprayed_75 : decode cX3_sprayed 75 = .ok (.aload_n 0, 1) := by decide +kernel
theorem dX3_sprayed_76 : decode cX3_sprayed 76 = .ok (.getfield 9, 3) := by decide +kernel
theorem dX3_sprayed_79 : decode cX3_sprayed 79 = .ok (.iconst (-1), 1) := by decide +kernel
theorem dX3_sprayed_80 : decode cX3_sprayed 80 = .ok (.putfield 66, 3) := by decide +kernel
theorem dX3_sprayed_83 : decode cX3_sprayed 83 = .ok (.return_, 1) := by decide +kernel
theorem dX3_setting_0 : decode cX3_setting 0 = .ok (.aload_n 0, 1) := by decide +kernel
theorem dX3_setting_1 : decode cX3_setting 1 = .ok (.ldc 69, 2) := by decide +kernel
theorem dX3_setting_3 : decode cX3_setting 3 = .ok (.invokevirtual 51, 3) := by decide +kernel
theorem dX3_setting_6 : decode cX3_setting 6 = .ok (.aload_n 0, 1) := by decide +kernel
theorem dX3_setting_7 : decode cX3_setting 7 = .ok (.getfield 15, 3) := by decide +kernel
theorem dX3_setting_10 : decode cX3_setting 10 = .ok (.aload_n 1, 1) := by decide +kernel
theorem dX3_setting_11 : decode cX3_setting 11 = .ok (.invokevirtual 70, 3) := by decide +kernel
theorem dX3_setting_14 : decode cX3_setting 14 = .ok (.iconst 0, 1) := by decide +kernel
theorem dX3_setting_15 : decode cX3_setting 15 = .ok (.istore_n 3, 1) := by decide +kernel
theorem dX3_setting_16 : decode cX3_setting 16 = .ok (.iload_n 3, 1) := by decide +kernel
theorem dX3_setting_17 : decode cX3_setting 17 = .ok (.getstatic 73, 3) := by decide +kernel
theorem dX3_setting_20 : decode cX3_setting 20 = .ok (.iload_n 2, 1) := by decide +kernel
theorem dX3_setting_21 : decode cX3_setting 21 = .ok (.iaload, 1) := by decide +kernel
theorem dX3_setting_22 : decode cX3_setting 22 = .ok (.if_icmp .gt 59, 3) := by decide +kernel
theorem dX3_setting_25 : decode cX3_setting 25 = .ok (.aload_n 0, 1) := by decide +kernel
theorem dX3_setting_26 : decode cX3_setting 26 = .ok (.getfield 15, 3) := by decide +kernel
theorem dX3_setting_29 : decode cX3_setting 29 = .ok (.iload_n 2, 1) := by decide +kernel
theorem dX3_setting_30 : decode cX3_setting 30 = .ok (.iconst 0, 1) := by decide +kernel
theorem dX3_setting_31 : decode cX3_setting 31 = .ok (.iload_n 3, 1) := by decide +kernel
theorem dX3_setting_32 : decode cX3_setting 32 = .ok (.invokevirtual 77, 3) := by decide +kernel
theorem dX3_setting_35 : decode cX3_setting 35 = .ok (.aload_n 0, 1) := by decide +kernel
theorem dX3_setting_36 : decode cX3_setting 36 = .ok (.getfield 9, 3) := by decide +kernel
theorem dX3_setting_39 : decode cX3_setting 39 = .ok (.aload_n 0, 1) := by decide +kernel
theorem dX3_setting_40 : decode cX3_setting 40 = .ok (.getfield 15, 3) := by decide +kernel
theorem dX3_setting_43 : decode cX3_setting 43 = .ok (.bipush 127, 2) := by decide +kernel
theorem dX3_setting_45 : decode cX3_setting 45 = .ok (.invokevirtual 26, 3) := by decide +kernel
theorem dX3_setting_48 : decode cX3_setting 48 = .ok (.aload_n 0, 1) := by decide +kernel
theorem dX3_setting_49 : decode cX3_setting 49 = .ok (.getfield 9, 3) := by decide +kernel
theorem dX3_setting_52 : decode cX3_setting 52 = .ok (.aload_n 0, 1) := by decide +kernel
theorem dX3_setting_53 : decode cX3_setting 53 = .ok (.getfield 15, 3) := by decide +kernel
theorem dX3_setting_56 : decode cX3_setting 56 = .ok (.invokevirtual 32, 3) := by decide +kernel
theorem dX3_setting_59 : decode cX3_setting 59 = .ok (.aload_n 0, 1) := by decide +kernel
theorem dX3_setting_60 : decode cX3_setting 60 = .ok (.iload_n 3, 1) := by decide +kernel
theorem dX3_setting_61 : decode cX3_setting 61 = .ok (.aload_n 0, 1) := by decide +kernel
theorem dX3_setting_62 : decode cX3_setting 62 = .ok (.getfield 9, 3) := by decide +kernel
theorem dX3_setting_65 : decode cX3_setting 65 = .ok (.aload_n 0, 1) := by decide +kernel
theorem dX3_setting_66 : decode cX3_setting 66 = .ok (.getfield 15, 3) := by decide +kernel
theorem dX3_setting_69 : decode cX3_setting 69 = .ok (.invokevirtual 40, 3) := by decide +kernel
theorem dX3_setting_72 : decode cX3_setting 72 = .ok (.invokevirtual 63, 3) := by decide +kernel
theorem dX3_setting_75 : decode cX3_setting 75 = .ok (.iinc 3 1, 3) := by decide +kernel
theorem dX3_setting_78 : decode cX3_setting 78 = .ok (.goto (-62), 3) := by decide +kernel
theorem dX3_setting_81 : decode cX3_setting 81 = .ok (.return_, 1) := by decide +kernel
theorem dX3_fewest_0 : decode cX3_fewest 0 = .ok (.iconst (-1), 1) := by decide +kernel
theorem dX3_fewest_1 : decode cX3_fewest 1 = .ok (.istore_n 3, 1) := by decide +kernel
theorem dX3_fewest_2 : decode cX3_fewest 2 = .ok (.bipush 8, 2) := by decide +kernel
theorem dX3_fewest_4 : decode cX3_fewest 4 = .ok (.istore 4, 2) := by decide +kernel
theorem dX3_fewest_6 : decode cX3_fewest 6 = .ok (.iconst 0, 1) := by decide +kernel
theorem dX3_fewest_7 : decode cX3_fewest 7 = .ok (.istore 5, 2) := by decide +kernel
theorem dX3_fewest_9 : decode cX3_fewest 9 = .ok (.iload 5, 2) := by decide +kernel
theorem dX3_fewest_11 : decode cX3_fewest 11 = .ok (.iconst 1, 1) := by decide +kernel
theorem dX3_fewest_12 : decode cX3_fewest 12 = .ok (.aload_n 1, 1) := by decide +kernel
theorem dX3_fewest_13 : decode cX3_fewest 13 = .ok (.getfield 54, 3) := by decide +kernel
theorem dX3_fewest_16 : decode cX3_fewest 16 = .ok (.ishl, 1) := by decide +kernel
theorem dX3_fewest_17 : decode cX3_fewest 17 = .ok (.if_icmp .ge 60, 3) := by decide +kernel
theorem dX3_fewest_20 : decode cX3_fewest 20 = .ok (.iload 5, 2) := by decide +kernel
theorem dX3_fewest_22 : decode cX3_fewest 22 = .ok (.invokestatic 81, 3) := by decide +kernel
theorem dX3_fewest_25 : decode cX3_fewest 25 = .ok (.istore 6, 2) := by decide +kernel
theorem dX3_fewest_27 : decode cX3_fewest 27 = .ok (.iload 6, 2) := by decide +kernel
theorem dX3_fewest_29 : decode cX3_fewest 29 = .ok (.iload 4, 2) := by decide +kernel
theorem dX3_fewest_31 : decode cX3_fewest 31 = .ok (.if_icmp .ge 40, 3) := by decide +kernel
theorem dX3_fewest_34 : decode cX3_fewest 34 = .ok (.aload_n 0, 1) := by decide +kernel
theorem dX3_fewest_35 : decode cX3_fewest 35 = .ok (.getfield 9, 3) := by decide +kernel
theorem dX3_fewest_38 : decode cX3_fewest 38 = .ok (.aload_n 1, 1) := by decide +kernel
theorem dX3_fewest_39 : decode cX3_fewest 39 = .ok (.iload 5, 2) := by decide +kernel
theorem dX3_fewest_41 : decode cX3_fewest 41 = .ok (.invokevirtual 26, 3) := by decide +kernel
theorem dX3_fewest_44 : decode cX3_fewest 44 = .ok (.aload_n 0, 1) := by decide +kernel
theorem dX3_fewest_45 : decode cX3_fewest 45 = .ok (.getfield 9, 3) := by decide +kernel
theorem dX3_fewest_48 : decode cX3_fewest 48 = .ok (.aload_n 1, 1) := by decide +kernel
theorem dX3_fewest_49 : decode cX3_fewest 49 = .ok (.invokevirtual 32, 3) := by decide +kernel
theorem dX3_fewest_52 : decode cX3_fewest 52 = .ok (.aload_n 0, 1) := by decide +kernel
theorem dX3_fewest_53 : decode cX3_fewest 53 = .ok (.getfield 9, 3) := by decide +kernel
theorem dX3_fewest_56 : decode cX3_fewest 56 = .ok (.aload_n 1, 1) := by decide +kernel
theorem dX3_fewest_57 : decode cX3_fewest 57 = .ok (.invokevirtual 40, 3) := by decide +kernel
theorem dX3_fewest_60 : decode cX3_fewest 60 = .ok (.iload_n 2, 1) := by decide +kernel
theorem dX3_fewest_61 : decode cX3_fewest 61 = .ok (.if_icmp .gt 10, 3) := by decide +kernel
theorem dX3_fewest_64 : decode cX3_fewest 64 = .ok (.iload 5, 2) := by decide +kernel
theorem dX3_fewest_66 : decode cX3_fewest 66 = .ok (.istore_n 3, 1) := by decide +kernel
theorem dX3_fewest_67 : decode cX3_fewest 67 = .ok (.iload 6, 2) := by decide +kernel
theorem dX3_fewest_69 : decode cX3_fewest 69 = .ok (.istore 4, 2) := by decide +kernel
theorem dX3_fewest_71 : decode cX3_fewest 71 = .ok (.iinc 5 1, 3) := by decide +kernel
theorem dX3_fewest_74 : decode cX3_fewest 74 = .ok (.goto (-65), 3) := by decide +kernel
theorem dX3_fewest_77 : decode cX3_fewest 77 = .ok (.iload_n 3, 1) := by decide +kernel
theorem dX3_fewest_78 : decode cX3_fewest 78 = .ok (.ireturn, 1) := by decide +kernel
theorem dX4_init_0 : decode cX4_init 0 = .ok (.aload_n 0, 1) := by decide +kernel
theorem dX4_init_1 : decode cX4_init 1 = .ok (.invokespecial 1, 3) := by decide +kernel
theorem dX4_init_4 : decode cX4_init 4 = .ok (.aload_n 0, 1) := by decide +kernel
theorem dX4_init_5 : decode cX4_init 5 = .ok (.iconst 4, 1) := by decide +kernel
theorem dX4_init_6 : decode cX4_init 6 = .ok (.newarray .int, 2) := by decide +kernel
theorem dX4_init_8 : decode cX4_init 8 = .ok (.dup, 1) := by decide +kernel
theorem dX4_init_9 : decode cX4_init 9 = .ok (.iconst 0, 1) := by decide +kernel
theorem dX4_init_10 : decode cX4_init 10 = .ok (.iconst (-1), 1) := by decide +kernel
theorem dX4_init_11 : decode cX4_init 11 = .ok (.iastore, 1) := by decide +kernel
theorem dX4_init_12 : decode cX4_init 12 = .ok (.dup, 1) := by decide +kernel
theorem dX4_init_13 : decode cX4_init 13 = .ok (.iconst 1, 1) := by decide +kernel
theorem dX4_init_14 : decode cX4_init 14 = .ok (.iconst (-1), 1) := by decide +kernel
theorem dX4_init_15 : decode cX4_init 15 = .ok (.iastore, 1) := by decide +kernel
theorem dX4_init_16 : decode cX4_init 16 = .ok (.dup, 1) := by decide +kernel
theorem dX4_init_17 : decode cX4_init 17 = .ok (.iconst 2, 1) := by decide +kernel
theorem dX4_init_18 : decode cX4_init 18 = .ok (.iconst (-1), 1) := by decide +kernel
theorem dX4_init_19 : decode cX4_init 19 = .ok (.iastore, 1) := by decide +kernel
theorem dX4_init_20 : decode cX4_init 20 = .ok (.dup, 1) := by decide +kernel
theorem dX4_init_21 : decode cX4_init 21 = .ok (.iconst 3, 1) := by decide +kernel
theorem dX4_init_22 : decode cX4_init 22 = .ok (.iconst (-1), 1) := by decide +kernel
theorem dX4_init_23 : decode cX4_init 23 = .ok (.iastore, 1) := by decide +kernel
theorem dX4_init_24 : decode cX4_init 24 = .ok (.putfield 9, 3) := by decide +kernel
theorem dX4_init_27 : decode cX4_init 27 = .ok (.aload_n 0, 1) := by decide +kernel
theorem dX4_init_28 : decode cX4_init 28 = .ok (.iconst 4, 1) := by decide +kernel
theorem dX4_init_29 : decode cX4_init 29 = .ok (.newarray .int, 2) := by decide +kernel
theorem dX4_init_31 : decode cX4_init 31 = .ok (.putfield 13, 3) := by decide +kernel
theorem dX4_init_34 : decode cX4_init 34 = .ok (.aload_n 0, 1) := by decide +kernel
theorem dX4_init_35 : decode cX4_init 35 = .ok (.iconst 4, 1) := by decide +kernel
theorem dX4_init_36 : decode cX4_init 36 = .ok (.bipush 40, 2) := by decide +kernel
theorem dX4_init_38 : decode cX4_init 38 = .ok (.multianewarray 16 2, 4) := by decide +kernel
theorem dX4_init_42 : decode cX4_init 42 = .ok (.putfield 18, 3) := by decide +kernel
theorem dX4_init_45 : decode cX4_init 45 = .ok (.return_, 1) := by decide +kernel
theorem dX4_has_0 : decode cX4_has 0 = .ok (.iload_n 1, 1) := by decide +kernel
theorem dX4_has_1 : decode cX4_has 1 = .ok (.ifCond .lt 12, 3) := by decide +kernel
theorem dX4_has_4 : decode cX4_has 4 = .ok (.iload_n 1, 1) := by decide +kernel
theorem dX4_has_5 : decode cX4_has 5 = .ok (.iconst 4, 1) := by decide +kernel
theorem dX4_has_6 : decode cX4_has 6 = .ok (.if_icmp .ge 7, 3) := by decide +kernel
theorem dX4_has_9 : decode cX4_has 9 = .ok (.iconst 1, 1) := by decide +kernel
theorem dX4_has_10 : decode cX4_has 10 = .ok (.goto 4, 3) := by decide +kernel
theorem dX4_has_13 : decode cX4_has 13 = .ok (.iconst 0, 1) := by decide +kernel
theorem dX4_has_14 : decode cX4_has 14 = .ok (.ireturn, 1) := by decide +kernel
theorem dX4_isMissing_0 : decode cX4_isMissing 0 = .ok (.aload_n 0, 1) := by decide +kernel
theorem dX4_isMissing_1 : decode cX4_isMissing 1 = .ok (.getfield 9, 3) := by decide +kernel
theorem dX4_isMissing_4 : decode cX4_isMissing 4 = .ok (.iload_n 1, 1) := by decide +kernel
theorem dX4_isMissing_5 : decode cX4_isMissing 5 = .ok (.iaload, 1) := by decide +kernel
theorem dX4_isMissing_6 : decode cX4_isMissing 6 = .ok (.iconst (-1), 1) := by decide +kernel
theorem dX4_isMissing_7 : decode cX4_isMissing 7 = .ok (.if_icmp .ne 7, 3) := by decide +kernel
theorem dX4_isMissing_10 : decode cX4_isMissing 10 = .ok (.iconst 1, 1) := by decide +kernel
theorem dX4_isMissing_11 : decode cX4_isMissing 11 = .ok (.goto 4, 3) := by decide +kernel
theorem dX4_isMissing_14 : decode cX4_isMissing 14 = .ok (.iconst 0, 1) := by decide +kernel
theorem dX4_isMissing_15 : decode cX4_isMissing 15 = .ok (.ireturn, 1) := by decide +kernel
theorem dX4_hasItem_0 : decode cX4_hasItem 0 = .ok (.iload_n 2, 1) := by decide +kernel
theorem dX4_hasItem_1 : decode cX4_hasItem 1 = .ok (.ifCond .lt 17, 3) := by decide +kernel
theorem dX4_hasItem_4 : decode cX4_hasItem 4 = .ok (.iload_n 2, 1) := by decide +kernel
theorem dX4_hasItem_5 : decode cX4_hasItem 5 = .ok (.aload_n 0, 1) := by decide +kernel
theorem dX4_hasItem_6 : decode cX4_hasItem 6 = .ok (.getfield 13, 3) := by decide +kernel
theorem dX4_hasItem_9 : decode cX4_hasItem 9 = .ok (.iload_n 1, 1) := by decide +kernel
theorem dX4_hasItem_10 : decode cX4_hasItem 10 = .ok (.iaload, 1) := by decide +kernel
theorem dX4_hasItem_11 : decode cX4_hasItem 11 = .ok (.if_icmp .ge 7, 3) := by decide +kernel
theorem dX4_hasItem_14 : decode cX4_hasItem 14 = .ok (.iconst 1, 1) := by decide +kernel
theorem dX4_hasItem_15 : decode cX4_hasItem 15 = .ok (.goto 4, 3) := by decide +kernel
theorem dX4_hasItem_18 : decode cX4_hasItem 18 = .ok (.iconst 0, 1) := by decide +kernel
theorem dX4_hasItem_19 : decode cX4_hasItem 19 = .ok (.ireturn, 1) := by decide +kernel
theorem dX4_hasItems_0 : decode cX4_hasItems 0 = .ok (.iload_n 2, 1) := by decide +kernel
theorem dX4_hasItems_1 : decode cX4_hasItems 1 = .ok (.ifCond .lt 33, 3) := by decide +kernel
theorem dX4_hasItems_4 : decode cX4_hasItems 4 = .ok (.iload_n 3, 1) := by decide +kernel
theorem dX4_hasItems_5 : decode cX4_hasItems 5 = .ok (.ifCond .lt 29, 3) := by decide +kernel
theorem dX4_hasItems_8 : decode cX4_hasItems 8 = .ok (.iload_n 3, 1) := by decide +kernel
theorem dX4_hasItems_9 : decode cX4_hasItems 9 = .ok (.aload_n 0, 1) := by decide +kernel
theorem dX4_hasItems_10 : decode cX4_hasItems 10 = .ok (.getfield 13, 3) := by decide +kernel
theorem dX4_hasItems_13 : decode cX4_hasItems 13 = .ok (.iload_n 1, 1) := by decide +kernel
theorem dX4_hasItems_14 : decode cX4_hasItems 14 = .ok (.iaload, 1) := by decide +kernel
theorem dX4_hasItems_15 : decode cX4_hasItems 15 = .ok (.if_icmp .gt 19, 3) := by decide +kernel
theorem dX4_hasItems_18 : decode cX4_hasItems 18 = .ok (.iload_n 2, 1) := by decide +kernel
theorem dX4_hasItems_19 : decode cX4_hasItems 19 = .ok (.aload_n 0, 1) := by decide +kernel
theorem dX4_hasItems_20 : decode cX4_hasItems 20 = .ok (.getfield 13, 3) := by decide +kernel
theorem dX4_hasItems_23 : decode cX4_hasItems 23 = .ok (.iload_n 1, 1) := by decide +kernel
theorem dX4_hasItems_24 : decode cX4_hasItems 24 = .ok (.iaload, 1) := by decide +kernel
theorem dX4_hasItems_25 : decode cX4_hasItems 25 = .ok (.iload_n 3, 1) := by decide +kernel
theorem dX4_hasItems_26 : decode cX4_hasItems 26 = .ok (.isub, 1) := by decide +kernel
theorem dX4_hasItems_27 : decode cX4_hasItems 27 = .ok (.if_icmp .gt 7, 3) := by decide +kernel
theorem dX4_hasItems_30 : decode cX4_hasItems 30 = .ok (.iconst 1, 1) := by decide +kernel
theorem dX4_hasItems_31 : decode cX4_hasItems 31 = .ok (.goto 4, 3) := by decide +kernel
theorem dX4_hasItems_34 : decode cX4_hasItems 34 = .ok (.iconst 0, 1) := by decide +kernel
theorem dX4_hasItems_35 : decode cX4_hasItems 35 = .ok (.ireturn, 1) := by decide +kernel
theorem dX4_become_0 : decode cX4_become 0 = .ok (.aload_n 0, 1) := by decide +kernel
theorem dX4_become_1 : decode cX4_become 1 = .ok (.getfield 9, 3) := by decide +kernel
theorem dX4_become_4 : decode cX4_become 4 = .ok (.iload_n 1, 1) := by decide +kernel
theorem dX4_become_5 : decode cX4_become 5 = .ok (.iload_n 2, 1) := by decide +kernel
theorem dX4_become_6 : decode cX4_become 6 = .ok (.iastore, 1) := by decide +kernel
theorem dX4_become_7 : decode cX4_become 7 = .ok (.aload_n 0, 1) := by decide +kernel
theorem dX4_become_8 : decode cX4_become 8 = .ok (.getfield 13, 3) := by decide +kernel
theorem dX4_become_11 : decode cX4_become 11 = .ok (.iload_n 1, 1) := by decide +kernel
theorem dX4_become_12 : decode cX4_become 12 = .ok (.iload_n 3, 1) := by decide +kernel
theorem dX4_become_13 : decode cX4_become 13 = .ok (.iastore, 1) := by decide +kernel
theorem dX4_become_14 : decode cX4_become 14 = .ok (.aload_n 0, 1) := by decide +kernel
theorem dX4_become_15 : decode cX4_become 15 = .ok (.getfield 18, 3) := by decide +kernel
theorem dX4_become_18 : decode cX4_become 18 = .ok (.iload_n 1, 1) := by decide +kernel
theorem dX4_become_19 : decode cX4_become 19 = .ok (.aaload, 1) := by decide +kernel
theorem dX4_become_20 : decode cX4_become 20 = .ok (.iconst 0, 1) := by decide +kernel
theorem dX4_become_21 : decode cX4_become 21 = .ok (.invokestatic 21, 3) := by decide +kernel
theorem dX4_become_24 : decode cX4_become 24 = .ok (.return_, 1) := by decide +kernel
theorem dX4_put_0 : decode cX4_put 0 = .ok (.aload_n 0, 1) := by decide +kernel
theorem dX4_put_1 : decode cX4_put 1 = .ok (.getfield 9, 3) := by decide +kernel
theorem dX4_put_4 : decode cX4_put 4 = .ok (.iload_n 1, 1) := by decide +kernel
theorem dX4_put_5 : decode cX4_put 5 = .ok (.iaload, 1) := by decide +kernel
theorem dX4_put_6 : decode cX4_put 6 = .ok (.ifCond .ne 8, 3) := by decide +kernel
theorem dX4_put_9 : decode cX4_put 9 = .ok (.iload_n 3, 1) := by decide +kernel
theorem dX4_put_10 : decode cX4_put 10 = .ok (.i2b, 1) := by decide +kernel
theorem dX4_put_11 : decode cX4_put 11 = .ok (.goto 4, 3) := by decide +kernel
theorem dX4_put_14 : decode cX4_put 14 = .ok (.iload_n 3, 1) := by decide +kernel
theorem dX4_put_15 : decode cX4_put 15 = .ok (.istore 4, 2) := by decide +kernel
theorem dX4_put_17 : decode cX4_put 17 = .ok (.aload_n 0, 1) := by decide +kernel
theorem dX4_put_18 : decode cX4_put 18 = .ok (.getfield 18, 3) := by decide +kernel
theorem dX4_put_21 : decode cX4_put 21 = .ok (.iload_n 1, 1) := by decide +kernel
theorem dX4_put_22 : decode cX4_put 22 = .ok (.aaload, 1) := by decide +kernel
theorem dX4_put_23 : decode cX4_put 23 = .ok (.iload_n 2, 1) := by decide +kernel
theorem dX4_put_24 : decode cX4_put 24 = .ok (.aload_n 0, 1) := by decide +kernel
theorem dX4_put_25 : decode cX4_put 25 = .ok (.getfield 9, 3) := by decide +kernel
theorem dX4_put_28 : decode cX4_put 28 = .ok (.iload_n 1, 1) := by decide +kernel
theorem dX4_put_29 : decode cX4_put 29 = .ok (.iaload, 1) := by decide +kernel
theorem dX4_put_30 : decode cX4_put 30 = .ok (.iconst 1, 1) := by decide +kernel
theorem dX4_put_31 : decode cX4_put 31 = .ok (.if_icmp .ne 8, 3) := by decide +kernel
theorem dX4_put_34 : decode cX4_put 34 = .ok (.iload_n 3, 1) := by decide +kernel
theorem dX4_put_35 : decode cX4_put 35 = .ok (.i2s, 1) := by decide +kernel
theorem dX4_put_36 : decode cX4_put 36 = .ok (.goto 5, 3) := by decide +kernel
theorem dX4_put_39 : decode cX4_put 39 = .ok (.iload 4, 2) := by decide +kernel
theorem dX4_put_41 : decode cX4_put 41 = .ok (.iastore, 1) := by decide +kernel
theorem dX4_put_42 : decode cX4_put 42 = .ok (.return_, 1) := by decide +kernel
theorem dX5_init_0 : decode cX5_init 0 = .ok (.aload_n 0, 1) := by decide +kernel
theorem dX5_init_1 : decode cX5_init 1 = .ok (.invokespecial 3, 3) := by decide +kernel
theorem dX5_init_4 : decode cX5_init 4 = .ok (.aload_n 0, 1) := by decide +kernel
theorem dX5_init_5 : decode cX5_init 5 = .ok (.iconst 5, 1) := by decide +kernel
theorem dX5_init_6 : decode cX5_init 6 = .ok (.putfield 9, 3) := by decide +kernel
theorem dX5_init_9 : decode cX5_init 9 = .ok (.aload_n 0, 1) := by decide +kernel
theorem dX5_init_10 : decode cX5_init 10 = .ok (.bipush 40, 2) := by decide +kernel
theorem dX5_init_12 : decode cX5_init 12 = .ok (.putfield 15, 3) := by decide +kernel
theorem dX5_init_15 : decode cX5_init 15 = .ok (.aload_n 0, 1) := by decide +kernel
theorem dX5_init_16 : decode cX5_init 16 = .ok (.bipush 7, 2) := by decide +kernel
theorem dX5_init_18 : decode cX5_init 18 = .ok (.newarray .int, 2) := by decide +kernel
theorem dX5_init_20 : decode cX5_init 20 = .ok (.putfield 18, 3) := by decide +kernel
theorem dX5_init_23 : decode cX5_init 23 = .ok (.aload_n 0, 1) := by decide +kernel
theorem dX5_init_24 : decode cX5_init 24 = .ok (.bipush 7, 2) := by decide +kernel
theorem dX5_init_26 : decode cX5_init 26 = .ok (.newarray .int, 2) := by decide +kernel
theorem dX5_init_28 : decode cX5_init 28 = .ok (.putfield 22, 3) := by decide +kernel
theorem dX5_init_31 : decode cX5_init 31 = .ok (.aload_n 0, 1) := by decide +kernel
theorem dX5_init_32 : decode cX5_init 32 = .ok (.bipush 7, 2) := by decide +kernel
theorem dX5_init_34 : decode cX5_init 34 = .ok (.newarray .int, 2) := by decide +kernel
theorem dX5_init_36 : decode cX5_init 36 = .ok (.putfield 25, 3) := by decide +kernel
theorem dX5_init_39 : decode cX5_init 39 = .ok (.aload_n 0, 1) := by decide +kernel
theorem dX5_init_40 : decode cX5_init 40 = .ok (.bipush 7, 2) := by decide +kernel
theorem dX5_init_42 : decode cX5_init 42 = .ok (.newarray .int, 2) := by decide +kernel
theorem dX5_init_44 : decode cX5_init 44 = .ok (.putfield 28, 3) := by decide +kernel
theorem dX5_init_47 : decode cX5_init 47 = .ok (.return_, 1) := by decide +kernel
theorem dX5_has_0 : decode cX5_has 0 = .ok (.iload_n 1, 1) := by decide +kernel
theorem dX5_has_1 : decode cX5_has 1 = .ok (.ifCond .lt 15, 3) := by decide +kernel
theorem dX5_has_4 : decode cX5_has 4 = .ok (.iload_n 1, 1) := by decide +kernel
theorem dX5_has_5 : decode cX5_has 5 = .ok (.aload_n 0, 1) := by decide +kernel
theorem dX5_has_6 : decode cX5_has 6 = .ok (.getfield 31, 3) := by decide +kernel
theorem dX5_has_9 : decode cX5_has 9 = .ok (.if_icmp .ge 7, 3) := by decide +kernel
theorem dX5_has_12 : decode cX5_has 12 = .ok (.iconst 1, 1) := by decide +kernel
theorem dX5_has_13 : decode cX5_has 13 = .ok (.goto 4, 3) := by decide +kernel
theorem dX5_has_16 : decode cX5_has 16 = .ok (.iconst 0, 1) := by decide +kernel
theorem dX5_has_17 : decode cX5_has 17 = .ok (.ireturn, 1) := by decide +kernel
theorem dX5_add_0 : decode cX5_add 0 = .ok (.aload_n 0, 1) := by decide +kernel
theorem dX5_add_1 : decode cX5_add 1 = .ok (.getfield 31, 3) := by decide +kernel
theorem dX5_add_4 : decode cX5_add 4 = .ok (.bipush 7, 2) := by decide +kernel
theorem dX5_add_6 : decode cX5_add 6 = .ok (.if_icmp .lt 5, 3) := by decide +kernel
theorem dX5_add_9 : decode cX5_add 9 = .ok (.iconst 0, 1) := by decide +kernel
theorem dX5_add_10 : decode cX5_add 10 = .ok (.ireturn, 1) := by decide +kernel
theorem dX5_add_11 : decode cX5_add 11 = .ok (.aload_n 0, 1) := by decide +kernel
theorem dX5_add_12 : decode cX5_add 12 = .ok (.getfield 18, 3) := by decide +kernel
theorem dX5_add_15 : decode cX5_add 15 = .ok (.aload_n 0, 1) := by decide +kernel
theorem dX5_add_16 : decode cX5_add 16 = .ok (.getfield 31, 3) := by decide +kernel
theorem dX5_add_19 : decode cX5_add 19 = .ok (.iload_n 1, 1) := by decide +kernel
theorem dX5_add_20 : decode cX5_add 20 = .ok (.iastore, 1) := by decide +kernel
theorem dX5_add_21 : decode cX5_add 21 = .ok (.aload_n 0, 1) := by decide +kernel
theorem dX5_add_22 : decode cX5_add 22 = .ok (.getfield 22, 3) := by decide +kernel
theorem dX5_add_25 : decode cX5_add 25 = .ok (.aload_n 0, 1) := by decide +kernel
theorem dX5_add_26 : decode cX5_add 26 = .ok (.getfield 31, 3) := by decide +kernel
theorem dX5_add_29 : decode cX5_add 29 = .ok (.iload_n 2, 1) := by decide +kernel
theorem dX5_add_30 : decode cX5_add 30 = .ok (.iastore, 1) := by decide +kernel
theorem dX5_add_31 : decode cX5_add 31 = .ok (.aload_n 0, 1) := by decide +kernel
theorem dX5_add_32 : decode cX5_add 32 = .ok (.getfield 25, 3) := by decide +kernel
theorem dX5_add_35 : decode cX5_add 35 = .ok (.aload_n 0, 1) := by decide +kernel
theorem dX5_add_36 : decode cX5_add 36 = .ok (.getfield 31, 3) := by decide +kernel
theorem dX5_add_39 : decode cX5_add 39 = .ok (.bipush 50, 2) := by decide +kernel
theorem dX5_add_41 : decode cX5_add 41 = .ok (.iastore, 1) := by decide +kernel
theorem dX5_add_42 : decode cX5_add 42 = .ok (.aload_n 0, 1) := by decide +kernel
theorem dX5_add_43 : decode cX5_add 43 = .ok (.getfield 28, 3) := by decide +kernel
theorem dX5_add_46 : decode cX5_add 46 = .ok (.aload_n 0, 1) := by decide +kernel
theorem dX5_add_47 : decode cX5_add 47 = .ok (.getfield 31, 3) := by decide +kernel
theorem dX5_add_50 : decode cX5_add 50 = .ok (.iconst 0, 1) := by decide +kernel
theorem dX5_add_51 : decode cX5_add 51 = .ok (.iastore, 1) := by decide +kernel
theorem dX5_add_52 : decode cX5_add 52 = .ok (.aload_n 0, 1) := by decide +kernel
theorem dX5_add_53 : decode cX5_add 53 = .ok (.dup, 1) := by decide +kernel
theorem dX5_add_54 : decode cX5_add 54 = .ok (.getfield 31, 3) := by decide +kernel
theorem dX5_add_57 : decode cX5_add 57 = .ok (.iconst 1, 1) := by decide +kernel
theorem dX5_add_58 : decode cX5_add 58 = .ok (.iadd, 1) := by decide +kernel
theorem dX5_add_59 : decode cX5_add 59 = .ok (.putfield 31, 3) := by decide +kernel
theorem dX5_add_62 : decode cX5_add 62 = .ok (.iconst 1, 1) := by decide +kernel
theorem dX5_add_63 : decode cX5_add 63 = .ok (.ireturn, 1) := by decide +kernel
theorem dX5_item_0 : decode cX5_item 0 = .ok (.iload_n 1, 1) := by decide +kernel
theorem dX5_item_1 : decode cX5_item 1 = .ok (.lookupswitch 50 #[(0, 35), (1, 40), (10, 45)], 35) := by decide +kernel
theorem dX5_item_36 : decode cX5_item 36 = .ok (.aload_n 0, 1) := by decide +kernel
theorem dX5_item_37 : decode cX5_item 37 = .ok (.getfield 9, 3) := by decide +kernel
theorem dX5_item_40 : decode cX5_item 40 = .ok (.ireturn, 1) := by decide +kernel
theorem dX5_item_41 : decode cX5_item 41 = .ok (.aload_n 0, 1) := by decide +kernel
theorem dX5_item_42 : decode cX5_item 42 = .ok (.getfield 15, 3) := by decide +kernel
theorem dX5_item_45 : decode cX5_item 45 = .ok (.ireturn, 1) := by decide +kernel
theorem dX5_item_46 : decode cX5_item 46 = .ok (.aload_n 0, 1) := by decide +kernel
theorem dX5_item_47 : decode cX5_item 47 = .ok (.getfield 34, 3) := by decide +kernel
theorem dX5_item_50 : decode cX5_item 50 = .ok (.ireturn, 1) := by decide +kernel
theorem dX5_item_51 : decode cX5_item 51 = .ok (.aload_n 0, 1) := by decide +kernel
theorem dX5_item_52 : decode cX5_item 52 = .ok (.iload_n 2, 1) := by decide +kernel
theorem dX5_item_53 : decode cX5_item 53 = .ok (.invokevirtual 37, 3) := by decide +kernel
theorem dX5_item_56 : decode cX5_item 56 = .ok (.ifCond .eq 12, 3) := by decide +kernel
theorem dX5_item_59 : decode cX5_item 59 = .ok (.aload_n 0, 1) := by decide +kernel
theorem dX5_item_60 : decode cX5_item 60 = .ok (.iload_n 1, 1) := by decide +kernel
theorem dX5_item_61 : decode cX5_item 61 = .ok (.iload_n 2, 1) := by decide +kernel
theorem dX5_item_62 : decode cX5_item 62 = .ok (.invokevirtual 41, 3) := by decide +kernel
theorem dX5_item_65 : decode cX5_item 65 = .ok (.goto 4, 3) := by decide +kernel
theorem dX5_item_68 : decode cX5_item 68 = .ok (.iconst (-1), 1) := by decide +kernel
theorem dX5_item_69 : decode cX5_item 69 = .ok (.ireturn, 1) := by decide +kernel
theorem dX5_itemOf_0 : decode cX5_itemOf 0 = .ok (.iload_n 1, 1) := by decide +kernel
theorem dX5_itemOf_1 : decode cX5_itemOf 1 = .ok (.tableswitch 48 2 4 #[27, 34, 41], 27) := by decide +kernel
theorem dX5_itemOf_28 : decode cX5_itemOf 28 = .ok (.aload_n 0, 1) := by decide +kernel
theorem dX5_itemOf_29 : decode cX5_itemOf 29 = .ok (.getfield 22, 3) := by decide +kernel
theorem dX5_itemOf_32 : decode cX5_itemOf 32 = .ok (.iload_n 2, 1) := by decide +kernel
theorem dX5_itemOf_33 : decode cX5_itemOf 33 = .ok (.iaload, 1) := by decide +kernel
theorem dX5_itemOf_34 : decode cX5_itemOf 34 = .ok (.ireturn, 1) := by decide +kernel
theorem dX5_itemOf_35 : decode cX5_itemOf 35 = .ok (.aload_n 0, 1) := by decide +kernel
theorem dX5_itemOf_36 : decode cX5_itemOf 36 = .ok (.getfield 25, 3) := by decide +kernel
theorem dX5_itemOf_39 : decode cX5_itemOf 39 = .ok (.iload_n 2, 1) := by decide +kernel
theorem dX5_itemOf_40 : decode cX5_itemOf 40 = .ok (.iaload, 1) := by decide +kernel
theorem dX5_itemOf_41 : decode cX5_itemOf 41 = .ok (.ireturn, 1) := by decide +kernel
theorem dX5_itemOf_42 : decode cX5_itemOf 42 = .ok (.aload_n 0, 1) := by decide +kernel
theorem dX5_itemOf_43 : decode cX5_itemOf 43 = .ok (.getfield 28, 3) := by decide +kernel
theorem dX5_itemOf_46 : decode cX5_itemOf 46 = .ok (.iload_n 2, 1) := by decide +kernel
theorem dX5_itemOf_47 : decode cX5_itemOf 47 = .ok (.iaload, 1) := by decide +kernel
theorem dX5_itemOf_48 : decode cX5_itemOf 48 = .ok (.ireturn, 1) := by decide +kernel
theorem dX5_itemOf_49 : decode cX5_itemOf 49 = .ok (.aload_n 0, 1) := by decide +kernel
theorem dX5_itemOf_50 : decode cX5_itemOf 50 = .ok (.getfield 18, 3) := by decide +kernel
theorem dX5_itemOf_53 : decode cX5_itemOf 53 = .ok (.iload_n 2, 1) := by decide +kernel
theorem dX5_itemOf_54 : decode cX5_itemOf 54 = .ok (.iaload, 1) := by decide +kernel
theorem dX5_itemOf_55 : decode cX5_itemOf 55 = .ok (.ireturn, 1) := by decide +kernel
theorem dX5_put_0 : decode cX5_put 0 = .ok (.iload_n 1, 1) := by decide +kernel
theorem dX5_put_1 : decode cX5_put 1 = .ok (.lookupswitch 59 #[(0, 35), (1, 43), (10, 51)], 35) := by decide +kernel
theorem dX5_put_36 : decode cX5_put 36 = .ok (.aload_n 0, 1) := by decide +kernel
theorem dX5_put_37 : decode cX5_put 37 = .ok (.iload_n 3, 1) := by decide +kernel
theorem dX5_put_38 : decode cX5_put 38 = .ok (.putfield 9, 3) := by decide +kernel
theorem dX5_put_41 : decode cX5_put 41 = .ok (.goto 34, 3) := by decide +kernel
theorem dX5_put_44 : decode cX5_put 44 = .ok (.aload_n 0, 1) := by decide +kernel
theorem dX5_put_45 : decode cX5_put 45 = .ok (.iload_n 3, 1) := by decide +kernel
theorem dX5_put_46 : decode cX5_put 46 = .ok (.putfield 15, 3) := by decide +kernel
theorem dX5_put_49 : decode cX5_put 49 = .ok (.goto 26, 3) := by decide +kernel
theorem dX5_put_52 : decode cX5_put 52 = .ok (.aload_n 0, 1) := by decide +kernel
theorem dX5_put_53 : decode cX5_put 53 = .ok (.iload_n 3, 1) := by decide +kernel
theorem dX5_put_54 : decode cX5_put 54 = .ok (.putfield 34, 3) := by decide +kernel
theorem dX5_put_57 : decode cX5_put 57 = .ok (.goto 18, 3) := by decide +kernel
theorem dX5_put_60 : decode cX5_put 60 = .ok (.aload_n 0, 1) := by decide +kernel
theorem dX5_put_61 : decode cX5_put 61 = .ok (.iload_n 2, 1) := by decide +kernel
theorem dX5_put_62 : decode cX5_put 62 = .ok (.invokevirtual 37, 3) := by decide +kernel
theorem dX5_put_65 : decode cX5_put 65 = .ok (.ifCond .eq 10, 3) := by decide +kernel
theorem dX5_put_68 : decode cX5_put 68 = .ok (.aload_n 0, 1) := by decide +kernel
theorem dX5_put_69 : decode cX5_put 69 = .ok (.iload_n 1, 1) := by decide +kernel
theorem dX5_put_70 : decode cX5_put 70 = .ok (.iload_n 2, 1) := by decide +kernel
theorem dX5_put_71 : decode cX5_put 71 = .ok (.iload_n 3, 1) := by decide +kernel
theorem dX5_put_72 : decode cX5_put 72 = .ok (.invokevirtual 45, 3) := by decide +kernel
theorem dX5_put_75 : decode cX5_put 75 = .ok (.return_, 1) := by decide +kernel
theorem dX5_putOf_0 : decode cX5_putOf 0 = .ok (.iload_n 1, 1) := by decide +kernel
theorem dX5_putOf_1 : decode cX5_putOf 1 = .ok (.tableswitch 57 2 4 #[27, 37, 47], 27) := by decide +kernel
theorem dX5_putOf_28 : decode cX5_putOf 28 = .ok (.aload_n 0, 1) := by decide +kernel
theorem dX5_putOf_29 : decode cX5_putOf 29 = .ok (.getfield 22, 3) := by decide +kernel
theorem dX5_putOf_32 : decode cX5_putOf 32 = .ok (.iload_n 2, 1) := by decide +kernel
theorem dX5_putOf_33 : decode cX5_putOf 33 = .ok (.iload_n 3, 1) := by decide +kernel
theorem dX5_putOf_34 : decode cX5_putOf 34 = .ok (.iastore, 1) := by decide +kernel
theorem dX5_putOf_35 : decode cX5_putOf 35 = .ok (.goto 30, 3) := by decide +kernel
theorem dX5_putOf_38 : decode cX5_putOf 38 = .ok (.aload_n 0, 1) := by decide +kernel
theorem dX5_putOf_39 : decode cX5_putOf 39 = .ok (.getfield 25, 3) := by decide +kernel
theorem dX5_putOf_42 : decode cX5_putOf 42 = .ok (.iload_n 2, 1) := by decide +kernel
theorem dX5_putOf_43 : decode cX5_putOf 43 = .ok (.iload_n 3, 1) := by decide +kernel
theorem dX5_putOf_44 : decode cX5_putOf 44 = .ok (.iastore, 1) := by decide +kernel
theorem dX5_putOf_45 : decode cX5_putOf 45 = .ok (.goto 20, 3) := by decide +kernel
theorem dX5_putOf_48 : decode cX5_putOf 48 = .ok (.aload_n 0, 1) := by decide +kernel
theorem dX5_putOf_49 : decode cX5_putOf 49 = .ok (.getfield 28, 3) := by decide +kernel
theorem dX5_putOf_52 : decode cX5_putOf 52 = .ok (.iload_n 2, 1) := by decide +kernel
theorem dX5_putOf_53 : decode cX5_putOf 53 = .ok (.iload_n 3, 1) := by decide +kernel
theorem dX5_putOf_54 : decode cX5_putOf 54 = .ok (.iastore, 1) := by decide +kernel
theorem dX5_putOf_55 : decode cX5_putOf 55 = .ok (.goto 10, 3) := by decide +kernel
theorem dX5_putOf_58 : decode cX5_putOf 58 = .ok (.aload_n 0, 1) := by decide +kernel
theorem dX5_putOf_59 : decode cX5_putOf 59 = .ok (.getfield 18, 3) := by decide +kernel
theorem dX5_putOf_62 : decode cX5_putOf 62 = .ok (.iload_n 2, 1) := by decide +kernel
theorem dX5_putOf_63 : decode cX5_putOf 63 = .ok (.iload_n 3, 1) := by decide +kernel
theorem dX5_putOf_64 : decode cX5_putOf 64 = .ok (.iastore, 1) := by decide +kernel
theorem dX5_putOf_65 : decode cX5_putOf 65 = .ok (.return_, 1) := by decide +kernel
theorem dX5_become_0 : decode cX5_become 0 = .ok (.aload_n 0, 1) := by decide +kernel
theorem dX5_become_1 : decode cX5_become 1 = .ok (.aload_n 1, 1) := by decide +kernel
theorem dX5_become_2 : decode cX5_become 2 = .ok (.getfield 9, 3) := by decide +kernel
theorem dX5_become_5 : decode cX5_become 5 = .ok (.putfield 9, 3) := by decide +kernel
theorem dX5_become_8 : decode cX5_become 8 = .ok (.aload_n 0, 1) := by decide +kernel
theorem dX5_become_9 : decode cX5_become 9 = .ok (.aload_n 1, 1) := by decide +kernel
theorem dX5_become_10 : decode cX5_become 10 = .ok (.getfield 15, 3) := by decide +kernel
theorem dX5_become_13 : decode cX5_become 13 = .ok (.putfield 15, 3) := by decide +kernel
theorem dX5_become_16 : decode cX5_become 16 = .ok (.aload_n 0, 1) := by decide +kernel
theorem dX5_become_17 : decode cX5_become 17 = .ok (.aload_n 1, 1) := by decide +kernel
theorem dX5_become_18 : decode cX5_become 18 = .ok (.getfield 34, 3) := by decide +kernel
theorem dX5_become_21 : decode cX5_become 21 = .ok (.putfield 34, 3) := by decide +kernel
theorem dX5_become_24 : decode cX5_become 24 = .ok (.aload_n 0, 1) := by decide +kernel
theorem dX5_become_25 : decode cX5_become 25 = .ok (.aload_n 1, 1) := by decide +kernel
theorem dX5_become_26 : decode cX5_become 26 = .ok (.getfield 31, 3) := by decide +kernel
theorem dX5_become_29 : decode cX5_become 29 = .ok (.putfield 31, 3) := by decide +kernel
theorem dX5_become_32 : decode cX5_become 32 = .ok (.aload_n 1, 1) := by decide +kernel
theorem dX5_become_33 : decode cX5_become 33 = .ok (.getfield 18, 3) := by decide +kernel
theorem dX5_become_36 : decode cX5_become 36 = .ok (.iconst 0, 1) := by decide +kernel
theorem dX5_become_37 : decode cX5_become 37 = .ok (.aload_n 0, 1) := by decide +kernel
theorem dX5_become_38 : decode cX5_become 38 = .ok (.getfield 18, 3) := by decide +kernel
theorem dX5_become_41 : decode cX5_become 41 = .ok (.iconst 0, 1) := by decide +kernel
theorem dX5_become_42 : decode cX5_become 42 = .ok (.bipush 7, 2) := by decide +kernel
theorem dX5_become_44 : decode cX5_become 44 = .ok (.invokestatic 49, 3) := by decide +kernel
theorem dX5_become_47 : decode cX5_become 47 = .ok (.aload_n 1, 1) := by decide +kernel
theorem dX5_become_48 : decode cX5_become 48 = .ok (.getfield 22, 3) := by decide +kernel
theorem dX5_become_51 : decode cX5_become 51 = .ok (.iconst 0, 1) := by decide +kernel
theorem dX5_become_52 : decode cX5_become 52 = .ok (.aload_n 0, 1) := by decide +kernel
theorem dX5_become_53 : decode cX5_become 53 = .ok (.getfield 22, 3) := by decide +kernel
theorem dX5_become_56 : decode cX5_become 56 = .ok (.iconst 0, 1) := by decide +kernel
theorem dX5_become_57 : decode cX5_become 57 = .ok (.bipush 7, 2) := by decide +kernel
theorem dX5_become_59 : decode cX5_become 59 = .ok (.invokestatic 49, 3) := by decide +kernel
theorem dX5_become_62 : decode cX5_become 62 = .ok (.aload_n 1, 1) := by decide +kernel
theorem dX5_become_63 : decode cX5_become 63 = .ok (.getfield 25, 3) := by decide +kernel
theorem dX5_become_66 : decode cX5_become 66 = .ok (.iconst 0, 1) := by decide +kernel
theorem dX5_become_67 : decode cX5_become 67 = .ok (.aload_n 0, 1) := by decide +kernel
theorem dX5_become_68 : decode cX5_become 68 = .ok (.getfield 25, 3) := by decide +kernel
theorem dX5_become_71 : decode cX5_become 71 = .ok (.iconst 0, 1) := by decide +kernel
theorem dX5_become_72 : decode cX5_become 72 = .ok (.bipush 7, 2) := by decide +kernel
theorem dX5_become_74 : decode cX5_become 74 = .ok (.invokestatic 49, 3) := by decide +kernel
theorem dX5_become_77 : decode cX5_become 77 = .ok (.aload_n 1, 1) := by decide +kernel
theorem dX5_become_78 : decode cX5_become 78 = .ok (.getfield 28, 3) := by decide +kernel
theorem dX5_become_81 : decode cX5_become 81 = .ok (.iconst 0, 1) := by decide +kernel
theorem dX5_become_82 : decode cX5_become 82 = .ok (.aload_n 0, 1) := by decide +kernel
theorem dX5_become_83 : decode cX5_become 83 = .ok (.getfield 28, 3) := by decide +kernel
theorem dX5_become_86 : decode cX5_become 86 = .ok (.iconst 0, 1) := by decide +kernel
theorem dX5_become_87 : decode cX5_become 87 = .ok (.bipush 7, 2) := by decide +kernel
theorem dX5_become_89 : decode cX5_become 89 = .ok (.invokestatic 49, 3) := by decide +kernel
theorem dX5_become_92 : decode cX5_become 92 = .ok (.return_, 1) := by decide +kernel
theorem dX5_draw_0 : decode cX5_draw 0 = .ok (.iload_n 1, 1) := by decide +kernel
theorem dX5_draw_1 : decode cX5_draw 1 = .ok (.istore_n 2, 1) := by decide +kernel
theorem dX5_draw_2 : decode cX5_draw 2 = .ok (.iconst 0, 1) := by decide +kernel
theorem dX5_draw_3 : decode cX5_draw 3 = .ok (.istore_n 3, 1) := by decide +kernel
theorem dX5_draw_4 : decode cX5_draw 4 = .ok (.iload_n 3, 1) := by decide +kernel
theorem dX5_draw_5 : decode cX5_draw 5 = .ok (.aload_n 0, 1) := by decide +kernel
theorem dX5_draw_6 : decode cX5_draw 6 = .ok (.getfield 31, 3) := by decide +kernel
theorem dX5_draw_9 : decode cX5_draw 9 = .ok (.if_icmp .ge 31, 3) := by decide +kernel
theorem dX5_draw_12 : decode cX5_draw 12 = .ok (.iload_n 2, 1) := by decide +kernel
theorem dX5_draw_13 : decode cX5_draw 13 = .ok (.ldc 55, 2) := by decide +kernel
theorem dX5_draw_15 : decode cX5_draw 15 = .ok (.imul, 1) := by decide +kernel
theorem dX5_draw_16 : decode cX5_draw 16 = .ok (.sipush 12345, 3) := by decide +kernel
theorem dX5_draw_19 : decode cX5_draw 19 = .ok (.iadd, 1) := by decide +kernel
theorem dX5_draw_20 : decode cX5_draw 20 = .ok (.istore_n 2, 1) := by decide +kernel
theorem dX5_draw_21 : decode cX5_draw 21 = .ok (.aload_n 0, 1) := by decide +kernel
theorem dX5_draw_22 : decode cX5_draw 22 = .ok (.getfield 25, 3) := by decide +kernel
theorem dX5_draw_25 : decode cX5_draw 25 = .ok (.iload_n 3, 1) := by decide +kernel
theorem dX5_draw_26 : decode cX5_draw 26 = .ok (.iload_n 2, 1) := by decide +kernel
theorem dX5_draw_27 : decode cX5_draw 27 = .ok (.bipush 9, 2) := by decide +kernel
theorem dX5_draw_29 : decode cX5_draw 29 = .ok (.iushr, 1) := by decide +kernel
theorem dX5_draw_30 : decode cX5_draw 30 = .ok (.bipush 100, 2) := by decide +kernel
theorem dX5_draw_32 : decode cX5_draw 32 = .ok (.irem, 1) := by decide +kernel
theorem dX5_draw_33 : decode cX5_draw 33 = .ok (.iastore, 1) := by decide +kernel
theorem dX5_draw_34 : decode cX5_draw 34 = .ok (.iinc 3 1, 3) := by decide +kernel
theorem dX5_draw_37 : decode cX5_draw 37 = .ok (.goto (-33), 3) := by decide +kernel
theorem dX5_draw_40 : decode cX5_draw 40 = .ok (.return_, 1) := by decide +kernel
theorem dX5_creasedBy_0 : decode cX5_creasedBy 0 = .ok (.iconst 0, 1) := by decide +kernel
theorem dX5_creasedBy_1 : decode cX5_creasedBy 1 = .ok (.istore_n 2, 1) := by decide +kernel
theorem dX5_creasedBy_2 : decode cX5_creasedBy 2 = .ok (.iconst 0, 1) := by decide +kernel
theorem dX5_creasedBy_3 : decode cX5_creasedBy 3 = .ok (.istore_n 3, 1) := by decide +kernel
theorem dX5_creasedBy_4 : decode cX5_creasedBy 4 = .ok (.iload_n 3, 1) := by decide +kernel
theorem dX5_creasedBy_5 : decode cX5_creasedBy 5 = .ok (.aload_n 0, 1) := by decide +kernel
theorem dX5_creasedBy_6 : decode cX5_creasedBy 6 = .ok (.getfield 31, 3) := by decide +kernel
theorem dX5_creasedBy_9 : decode cX5_creasedBy 9 = .ok (.if_icmp .ge 25, 3) := by decide +kernel
theorem dX5_creasedBy_12 : decode cX5_creasedBy 12 = .ok (.iload_n 2, 1) := by decide +kernel
theorem dX5_creasedBy_13 : decode cX5_creasedBy 13 = .ok (.aload_n 1, 1) := by decide +kernel
theorem dX5_creasedBy_14 : decode cX5_creasedBy 14 = .ok (.iload_n 3, 1) := by decide +kernel
theorem dX5_creasedBy_15 : decode cX5_creasedBy 15 = .ok (.iaload, 1) := by decide +kernel
theorem dX5_creasedBy_16 : decode cX5_creasedBy 16 = .ok (.aload_n 0, 1) := by decide +kernel
theorem dX5_creasedBy_17 : decode cX5_creasedBy 17 = .ok (.getfield 18, 3) := by decide +kernel
theorem dX5_creasedBy_20 : decode cX5_creasedBy 20 = .ok (.iload_n 3, 1) := by decide +kernel
theorem dX5_creasedBy_21 : decode cX5_creasedBy 21 = .ok (.iaload, 1) := by decide +kernel
theorem dX5_creasedBy_22 : decode cX5_creasedBy 22 = .ok (.invokestatic 56, 3) := by decide +kernel
theorem dX5_creasedBy_25 : decode cX5_creasedBy 25 = .ok (.imul, 1) := by decide +kernel
theorem dX5_creasedBy_26 : decode cX5_creasedBy 26 = .ok (.iadd, 1) := by decide +kernel
theorem dX5_creasedBy_27 : decode cX5_creasedBy 27 = .ok (.istore_n 2, 1) := by decide +kernel
theorem dX5_creasedBy_28 : decode cX5_creasedBy 28 = .ok (.iinc 3 1, 3) := by decide +kernel
theorem dX5_creasedBy_31 : decode cX5_creasedBy 31 = .ok (.goto (-27), 3) := by decide +kernel
theorem dX5_creasedBy_34 : decode cX5_creasedBy 34 = .ok (.iload_n 2, 1) := by decide +kernel
theorem dX5_creasedBy_35 : decode cX5_creasedBy 35 = .ok (.ireturn, 1) := by decide +kernel
theorem dX6_init_0 : decode cX6_init 0 = .ok (.aload_n 0, 1) := by decide +kernel
theorem dX6_init_1 : decode cX6_init 1 = .ok (.invokespecial 3, 3) := by decide +kernel
theorem dX6_init_4 : decode cX6_init 4 = .ok (.aload_n 0, 1) := by decide +kernel
theorem dX6_init_5 : decode cX6_init 5 = .ok (.bipush 6, 2) := by decide +kernel
theorem dX6_init_7 : decode cX6_init 7 = .ok (.sipush 160, 3) := by decide +kernel
theorem dX6_init_10 : decode cX6_init 10 = .ok (.multianewarray 9 2, 4) := by decide +kernel
theorem dX6_init_14 : decode cX6_init 14 = .ok (.putfield 11, 3) := by decide +kernel
theorem dX6_init_17 : decode cX6_init 17 = .ok (.aload_n 0, 1) := by decide +kernel
theorem dX6_init_18 : decode cX6_init 18 = .ok (.bipush 6, 2) := by decide +kernel
theorem dX6_init_20 : decode cX6_init 20 = .ok (.iconst 3, 1) := by decide +kernel
theorem dX6_init_21 : decode cX6_init 21 = .ok (.multianewarray 9 2, 4) := by decide +kernel
theorem dX6_init_25 : decode cX6_init 25 = .ok (.putfield 16, 3) := by decide +kernel
theorem dX6_init_28 : decode cX6_init 28 = .ok (.aload_n 0, 1) := by decide +kernel
theorem dX6_init_29 : decode cX6_init 29 = .ok (.bipush 6, 2) := by decide +kernel
theorem dX6_init_31 : decode cX6_init 31 = .ok (.newarray .int, 2) := by decide +kernel
theorem dX6_init_33 : decode cX6_init 33 = .ok (.putfield 19, 3) := by decide +kernel
theorem dX6_init_36 : decode cX6_init 36 = .ok (.aload_n 0, 1) := by decide +kernel
theorem dX6_init_37 : decode cX6_init 37 = .ok (.sipush 160, 3) := by decide +kernel
theorem dX6_init_40 : decode cX6_init 40 = .ok (.newarray .int, 2) := by decide +kernel
theorem dX6_init_42 : decode cX6_init 42 = .ok (.putfield 23, 3) := by decide +kernel
theorem dX6_init_45 : decode cX6_init 45 = .ok (.aload_n 0, 1) := by decide +kernel
theorem dX6_init_46 : decode cX6_init 46 = .ok (.iconst 1, 1) := by decide +kernel
theorem dX6_init_47 : decode cX6_init 47 = .ok (.putfield 26, 3) := by decide +kernel
theorem dX6_init_50 : decode cX6_init 50 = .ok (.getstatic 30, 3) := by decide +kernel
theorem dX6_init_53 : decode cX6_init 53 = .ok (.iconst 0, 1) := by decide +kernel
theorem dX6_init_54 : decode cX6_init 54 = .ok (.aload_n 0, 1) := by decide +kernel
theorem dX6_init_55 : decode cX6_init 55 = .ok (.getfield 11, 3) := by decide +kernel
theorem dX6_init_58 : decode cX6_init 58 = .ok (.iconst 0, 1) := by decide +kernel
theorem dX6_init_59 : decode cX6_init 59 = .ok (.aaload, 1) := by decide +kernel
theorem dX6_init_60 : decode cX6_init 60 = .ok (.iconst 0, 1) := by decide +kernel
theorem dX6_init_61 : decode cX6_init 61 = .ok (.getstatic 30, 3) := by decide +kernel
theorem dX6_init_64 : decode cX6_init 64 = .ok (.arraylength, 1) := by decide +kernel
theorem dX6_init_65 : decode cX6_init 65 = .ok (.invokestatic 33, 3) := by decide +kernel
theorem dX6_init_68 : decode cX6_init 68 = .ok (.getstatic 39, 3) := by decide +kernel
theorem dX6_init_71 : decode cX6_init 71 = .ok (.iconst 0, 1) := by decide +kernel
theorem dX6_init_72 : decode cX6_init 72 = .ok (.aload_n 0, 1) := by decide +kernel
theorem dX6_init_73 : decode cX6_init 73 = .ok (.getfield 16, 3) := by decide +kernel
theorem dX6_init_76 : decode cX6_init 76 = .ok (.iconst 0, 1) := by decide +kernel
theorem dX6_init_77 : decode cX6_init 77 = .ok (.aaload, 1) := by decide +kernel
theorem dX6_init_78 : decode cX6_init 78 = .ok (.iconst 0, 1) := by decide +kernel
theorem dX6_init_79 : decode cX6_init 79 = .ok (.iconst 3, 1) := by decide +kernel
theorem dX6_init_80 : decode cX6_init 80 = .ok (.invokestatic 33, 3) := by decide +kernel
theorem dX6_init_83 : decode cX6_init 83 = .ok (.return_, 1) := by decide +kernel
theorem dX6_bounded_0 : decode cX6_bounded 0 = .ok (.aload_n 0, 1) := by decide +kernel
theorem dX6_bounded_1 : decode cX6_bounded 1 = .ok (.getfield 11, 3) := by decide +kernel
theorem dX6_bounded_4 : decode cX6_bounded 4 = .ok (.iload_n 1, 1) := by decide +kernel
theorem dX6_bounded_5 : decode cX6_bounded 5 = .ok (.aaload, 1) := by decide +kernel
theorem dX6_bounded_6 : decode cX6_bounded 6 = .ok (.astore_n 3, 1) := by decide +kernel
theorem dX6_bounded_7 : decode cX6_bounded 7 = .ok (.iconst 0, 1) := by decide +kernel
theorem dX6_bounded_8 : decode cX6_bounded 8 = .ok (.istore 4, 2) := by decide +kernel
theorem dX6_bounded_10 : decode cX6_bounded 10 = .ok (.aload_n 0, 1) := by decide +kernel
theorem dX6_bounded_11 : decode cX6_bounded 11 = .ok (.getfield 16, 3) := by decide +kernel
theorem dX6_bounded_14 : decode cX6_bounded 14 = .ok (.iload_n 1, 1) := by decide +kernel
theorem dX6_bounded_15 : decode cX6_bounded 15 = .ok (.aaload, 1) := by decide +kernel
theorem dX6_bounded_16 : decode cX6_bounded 16 = .ok (.iload_n 2, 1) := by decide +kernel
theorem dX6_bounded_17 : decode cX6_bounded 17 = .ok (.iaload, 1) := by decide +kernel
theorem dX6_bounded_18 : decode cX6_bounded 18 = .ok (.istore 5, 2) := by decide +kernel
theorem dX6_bounded_20 : decode cX6_bounded 20 = .ok (.iload 5, 2) := by decide +kernel
theorem dX6_bounded_22 : decode cX6_bounded 22 = .ok (.aload_n 3, 1) := by decide +kernel
theorem dX6_bounded_23 : decode cX6_bounded 23 = .ok (.arraylength, 1) := by decide +kernel
theorem dX6_bounded_24 : decode cX6_bounded 24 = .ok (.if_icmp .ge 187, 3) := by decide +kernel
theorem dX6_bounded_27 : decode cX6_bounded 27 = .ok (.aload_n 3, 1) := by decide +kernel
theorem dX6_bounded_28 : decode cX6_bounded 28 = .ok (.iload 5, 2) := by decide +kernel
theorem dX6_bounded_30 : decode cX6_bounded 30 = .ok (.iaload, 1) := by decide +kernel
theorem dX6_bounded_31 : decode cX6_bounded 31 = .ok (.sipush 10019, 3) := by decide +kernel
theorem dX6_bounded_34 : decode cX6_bounded 34 = .ok (.if_icmp .eq 177, 3) := by decide +kernel
theorem dX6_bounded_37 : decode cX6_bounded 37 = .ok (.iload 4, 2) := by decide +kernel
theorem dX6_bounded_39 : decode cX6_bounded 39 = .ok (.sipush 160, 3) := by decide +kernel
theorem dX6_bounded_42 : decode cX6_bounded 42 = .ok (.if_icmp .ge 169, 3) := by decide +kernel
theorem dX6_bounded_45 : decode cX6_bounded 45 = .ok (.aload_n 3, 1) := by decide +kernel
theorem dX6_bounded_46 : decode cX6_bounded 46 = .ok (.iload 5, 2) := by decide +kernel
theorem dX6_bounded_48 : decode cX6_bounded 48 = .ok (.iaload, 1) := by decide +kernel
theorem dX6_bounded_49 : decode cX6_bounded 49 = .ok (.istore 6, 2) := by decide +kernel
theorem dX6_bounded_51 : decode cX6_bounded 51 = .ok (.iload 6, 2) := by decide +kernel
theorem dX6_bounded_53 : decode cX6_bounded 53 = .ok (.sipush 10000, 3) := by decide +kernel
theorem dX6_bounded_56 : decode cX6_bounded 56 = .ok (.if_icmp .ge 18, 3) := by decide +kernel
theorem dX6_bounded_59 : decode cX6_bounded 59 = .ok (.aload_n 0, 1) := by decide +kernel
theorem dX6_bounded_60 : decode cX6_bounded 60 = .ok (.getfield 23, 3) := by decide +kernel
theorem dX6_bounded_63 : decode cX6_bounded 63 = .ok (.iload 4, 2) := by decide +kernel
theorem dX6_bounded_65 : decode cX6_bounded 65 = .ok (.iinc 4 1, 3) := by decide +kernel
theorem dX6_bounded_68 : decode cX6_bounded 68 = .ok (.iload 6, 2) := by decide +kernel
theorem dX6_bounded_70 : decode cX6_bounded 70 = .ok (.iastore, 1) := by decide +kernel
theorem dX6_bounded_71 : decode cX6_bounded 71 = .ok (.goto 134, 3) := by decide +kernel
theorem dX6_bounded_74 : decode cX6_bounded 74 = .ok (.iload 6, 2) := by decide +kernel
theorem dX6_bounded_76 : decode cX6_bounded 76 = .ok (.sipush 10006, 3) := by decide +kernel
theorem dX6_bounded_79 : decode cX6_bounded 79 = .ok (.if_icmp .ge 27, 3) := by decide +kernel
theorem dX6_bounded_82 : decode cX6_bounded 82 = .ok (.aload_n 0, 1) := by decide +kernel
theorem dX6_bounded_83 : decode cX6_bounded 83 = .ok (.getfield 23, 3) := by decide +kernel
theorem dX6_bounded_86 : decode cX6_bounded 86 = .ok (.iload 4, 2) := by decide +kernel
theorem dX6_bounded_88 : decode cX6_bounded 88 = .ok (.iinc 4 1, 3) := by decide +kernel
theorem dX6_bounded_91 : decode cX6_bounded 91 = .ok (.aload_n 0, 1) := by decide +kernel
theorem dX6_bounded_92 : decode cX6_bounded 92 = .ok (.getfield 19, 3) := by decide +kernel
theorem dX6_bounded_95 : decode cX6_bounded 95 = .ok (.iload 6, 2) := by decide +kernel
theorem dX6_bounded_97 : decode cX6_bounded 97 = .ok (.sipush 10000, 3) := by decide +kernel
theorem dX6_bounded_100 : decode cX6_bounded 100 = .ok (.isub, 1) := by decide +kernel
theorem dX6_bounded_101 : decode cX6_bounded 101 = .ok (.iaload, 1) := by decide +kernel
theorem dX6_bounded_102 : decode cX6_bounded 102 = .ok (.iastore, 1) := by decide +kernel
theorem dX6_bounded_103 : decode cX6_bounded 103 = .ok (.goto 102, 3) := by decide +kernel
theorem dX6_bounded_106 : decode cX6_bounded 106 = .ok (.iload 6, 2) := by decide +kernel
theorem dX6_bounded_108 : decode cX6_bounded 108 = .ok (.sipush 10011, 3) := by decide +kernel
theorem dX6_bounded_111 : decode cX6_bounded 111 = .ok (.if_icmp .gt 55, 3) := by decide +kernel
theorem dX6_bounded_114 : decode cX6_bounded 114 = .ok (.iload 4, 2) := by decide +kernel
theorem dX6_bounded_116 : decode cX6_bounded 116 = .ok (.ifCond .le 50, 3) := by decide +kernel
theorem dX6_bounded_119 : decode cX6_bounded 119 = .ok (.aload_n 0, 1) := by decide +kernel
theorem dX6_bounded_120 : decode cX6_bounded 120 = .ok (.getfield 23, 3) := by decide +kernel
theorem dX6_bounded_123 : decode cX6_bounded 123 = .ok (.iload 4, 2) := by decide +kernel
theorem dX6_bounded_125 : decode cX6_bounded 125 = .ok (.iconst 1, 1) := by decide +kernel
theorem dX6_bounded_126 : decode cX6_bounded 126 = .ok (.isub, 1) := by decide +kernel
theorem dX6_bounded_127 : decode cX6_bounded 127 = .ok (.iaload, 1) := by decide +kernel
theorem dX6_bounded_128 : decode cX6_bounded 128 = .ok (.istore 7, 2) := by decide +kernel
theorem dX6_bounded_130 : decode cX6_bounded 130 = .ok (.aload_n 0, 1) := by decide +kernel
theorem dX6_bounded_131 : decode cX6_bounded 131 = .ok (.getfield 23, 3) := by decide +kernel
theorem dX6_bounded_134 : decode cX6_bounded 134 = .ok (.iload 4, 2) := by decide +kernel
theorem dX6_bounded_136 : decode cX6_bounded 136 = .ok (.iconst 1, 1) := by decide +kernel
theorem dX6_bounded_137 : decode cX6_bounded 137 = .ok (.isub, 1) := by decide +kernel
theorem dX6_bounded_138 : decode cX6_bounded 138 = .ok (.iload 6, 2) := by decide +kernel
theorem dX6_bounded_140 : decode cX6_bounded 140 = .ok (.sipush 10010, 3) := by decide +kernel
theorem dX6_bounded_143 : decode cX6_bounded 143 = .ok (.if_icmp .ne 9, 3) := by decide +kernel
theorem dX6_bounded_146 : decode cX6_bounded 146 = .ok (.iload 7, 2) := by decide +kernel
theorem dX6_bounded_148 : decode cX6_bounded 148 = .ok (.ineg, 1) := by decide +kernel
theorem dX6_bounded_149 : decode cX6_bounded 149 = .ok (.goto 13, 3) := by decide +kernel
theorem dX6_bounded_152 : decode cX6_bounded 152 = .ok (.iload 7, 2) := by decide +kernel
theorem dX6_bounded_154 : decode cX6_bounded 154 = .ok (.ifCond .ne 7, 3) := by decide +kernel
theorem dX6_bounded_157 : decode cX6_bounded 157 = .ok (.iconst 1, 1) := by decide +kernel
theorem dX6_bounded_158 : decode cX6_bounded 158 = .ok (.goto 4, 3) := by decide +kernel
theorem dX6_bounded_161 : decode cX6_bounded 161 = .ok (.iconst 0, 1) := by decide +kernel
theorem dX6_bounded_162 : decode cX6_bounded 162 = .ok (.iastore, 1) := by decide +kernel
theorem dX6_bounded_163 : decode cX6_bounded 163 = .ok (.goto 42, 3) := by decide +kernel
theorem dX6_bounded_166 : decode cX6_bounded 166 = .ok (.iload 4, 2) := by decide +kernel
theorem dX6_bounded_168 : decode cX6_bounded 168 = .ok (.iconst 1, 1) := by decide +kernel
theorem dX6_bounded_169 : decode cX6_bounded 169 = .ok (.if_icmp .le 36, 3) := by decide +kernel
theorem dX6_bounded_172 : decode cX6_bounded 172 = .ok (.iinc 4 (-1), 3) := by decide +kernel
theorem dX6_bounded_175 : decode cX6_bounded 175 = .ok (.aload_n 0, 1) := by decide +kernel
theorem dX6_bounded_176 : decode cX6_bounded 176 = .ok (.getfield 23, 3) := by decide +kernel
theorem dX6_bounded_179 : decode cX6_bounded 179 = .ok (.iload 4, 2) := by decide +kernel
theorem dX6_bounded_181 : decode cX6_bounded 181 = .ok (.iconst 1, 1) := by decide +kernel
theorem dX6_bounded_182 : decode cX6_bounded 182 = .ok (.isub, 1) := by decide +kernel
theorem dX6_bounded_183 : decode cX6_bounded 183 = .ok (.iload 6, 2) := by decide +kernel
theorem dX6_bounded_185 : decode cX6_bounded 185 = .ok (.aload_n 0, 1) := by decide +kernel
theorem dX6_bounded_186 : decode cX6_bounded 186 = .ok (.getfield 23, 3) := by decide +kernel
theorem dX6_bounded_189 : decode cX6_bounded 189 = .ok (.iload 4, 2) := by decide +kernel
theorem dX6_bounded_191 : decode cX6_bounded 191 = .ok (.iconst 1, 1) := by decide +kernel
theorem dX6_bounded_192 : decode cX6_bounded 192 = .ok (.isub, 1) := by decide +kernel
theorem dX6_bounded_193 : decode cX6_bounded 193 = .ok (.iaload, 1) := by decide +kernel
theorem dX6_bounded_194 : decode cX6_bounded 194 = .ok (.aload_n 0, 1) := by decide +kernel
theorem dX6_bounded_195 : decode cX6_bounded 195 = .ok (.getfield 23, 3) := by decide +kernel
theorem dX6_bounded_198 : decode cX6_bounded 198 = .ok (.iload 4, 2) := by decide +kernel
theorem dX6_bounded_200 : decode cX6_bounded 200 = .ok (.iaload, 1) := by decide +kernel
theorem dX6_bounded_201 : decode cX6_bounded 201 = .ok (.invokestatic 42, 3) := by decide +kernel
theorem dX6_bounded_204 : decode cX6_bounded 204 = .ok (.iastore, 1) := by decide +kernel
theorem dX6_bounded_205 : decode cX6_bounded 205 = .ok (.iinc 5 1, 3) := by decide +kernel
theorem dX6_bounded_208 : decode cX6_bounded 208 = .ok (.goto (-188), 3) := by decide +kernel
theorem dX6_bounded_211 : decode cX6_bounded 211 = .ok (.iconst 0, 1) := by decide +kernel
theorem dX6_bounded_212 : decode cX6_bounded 212 = .ok (.getstatic 46, 3) := by decide +kernel
theorem dX6_bounded_215 : decode cX6_bounded 215 = .ok (.iload_n 2, 1) := by decide +kernel
theorem dX6_bounded_216 : decode cX6_bounded 216 = .ok (.iaload, 1) := by decide +kernel
theorem dX6_bounded_217 : decode cX6_bounded 217 = .ok (.aload_n 0, 1) := by decide +kernel
theorem dX6_bounded_218 : decode cX6_bounded 218 = .ok (.getfield 23, 3) := by decide +kernel
theorem dX6_bounded_221 : decode cX6_bounded 221 = .ok (.iconst 0, 1) := by decide +kernel
theorem dX6_bounded_222 : decode cX6_bounded 222 = .ok (.iaload, 1) := by decide +kernel
theorem dX6_bounded_223 : decode cX6_bounded 223 = .ok (.invokestatic 49, 3) := by decide +kernel
theorem dX6_bounded_226 : decode cX6_bounded 226 = .ok (.invokestatic 55, 3) := by decide +kernel
theorem dX6_bounded_229 : decode cX6_bounded 229 = .ok (.ireturn, 1) := by decide +kernel
theorem dX6_joined_0 : decode cX6_joined 0 = .ok (.iload_n 0, 1) := by decide +kernel
theorem dX6_joined_1 : decode cX6_joined 1 = .ok (.tableswitch 87 10012 10017 #[39, 43, 47, 51, 62, 73], 39) := by decide +kernel
theorem dX6_joined_40 : decode cX6_joined 40 = .ok (.iload_n 1, 1) := by decide +kernel
theorem dX6_joined_41 : decode cX6_joined 41 = .ok (.iload_n 2, 1) := by decide +kernel
theorem dX6_joined_42 : decode cX6_joined 42 = .ok (.iadd, 1) := by decide +kernel
theorem dX6_joined_43 : decode cX6_joined 43 = .ok (.ireturn, 1) := by decide +kernel
theorem dX6_joined_44 : decode cX6_joined 44 = .ok (.iload_n 1, 1) := by decide +kernel
theorem dX6_joined_45 : decode cX6_joined 45 = .ok (.iload_n 2, 1) := by decide +kernel
theorem dX6_joined_46 : decode cX6_joined 46 = .ok (.isub, 1) := by decide +kernel
theorem dX6_joined_47 : decode cX6_joined 47 = .ok (.ireturn, 1) := by decide +kernel
theorem dX6_joined_48 : decode cX6_joined 48 = .ok (.iload_n 1, 1) := by decide +kernel
theorem dX6_joined_49 : decode cX6_joined 49 = .ok (.iload_n 2, 1) := by decide +kernel
theorem dX6_joined_50 : decode cX6_joined 50 = .ok (.imul, 1) := by decide +kernel
theorem dX6_joined_51 : decode cX6_joined 51 = .ok (.ireturn, 1) := by decide +kernel
theorem dX6_joined_52 : decode cX6_joined 52 = .ok (.iload_n 1, 1) := by decide +kernel
theorem dX6_joined_53 : decode cX6_joined 53 = .ok (.iload_n 2, 1) := by decide +kernel
theorem dX6_joined_54 : decode cX6_joined 54 = .ok (.if_icmp .ge 7, 3) := by decide +kernel
theorem dX6_joined_57 : decode cX6_joined 57 = .ok (.iconst 1, 1) := by decide +kernel
theorem dX6_joined_58 : decode cX6_joined 58 = .ok (.goto 4, 3) := by decide +kernel
theorem dX6_joined_61 : decode cX6_joined 61 = .ok (.iconst 0, 1) := by decide +kernel
theorem dX6_joined_62 : decode cX6_joined 62 = .ok (.ireturn, 1) := by decide +kernel
theorem dX6_joined_63 : decode cX6_joined 63 = .ok (.iload_n 1, 1) := by decide +kernel
theorem dX6_joined_64 : decode cX6_joined 64 = .ok (.iload_n 2, 1) := by decide +kernel
theorem dX6_joined_65 : decode cX6_joined 65 = .ok (.if_icmp .ne 7, 3) := by decide +kernel
theorem dX6_joined_68 : decode cX6_joined 68 = .ok (.iconst 1, 1) := by decide +kernel
theorem dX6_joined_69 : decode cX6_joined 69 = .ok (.goto 4, 3) := by decide +kernel
theorem dX6_joined_72 : decode cX6_joined 72 = .ok (.iconst 0, 1) := by decide +kernel
theorem dX6_joined_73 : decode cX6_joined 73 = .ok (.ireturn, 1) := by decide +kernel
theorem dX6_joined_74 : decode cX6_joined 74 = .ok (.iload_n 1, 1) := by decide +kernel
theorem dX6_joined_75 : decode cX6_joined 75 = .ok (.ifCond .eq 11, 3) := by decide +kernel
theorem dX6_joined_78 : decode cX6_joined 78 = .ok (.iload_n 2, 1) := by decide +kernel
theorem dX6_joined_79 : decode cX6_joined 79 = .ok (.ifCond .eq 7, 3) := by decide +kernel
theorem dX6_joined_82 : decode cX6_joined 82 = .ok (.iconst 1, 1) := by decide +kernel
theorem dX6_joined_83 : decode cX6_joined 83 = .ok (.goto 4, 3) := by decide +kernel
theorem dX6_joined_86 : decode cX6_joined 86 = .ok (.iconst 0, 1) := by decide +kernel
theorem dX6_joined_87 : decode cX6_joined 87 = .ok (.ireturn, 1) := by decide +kernel
theorem dX6_joined_88 : decode cX6_joined 88 = .ok (.iload_n 1, 1) := by decide +kernel
theorem dX6_joined_89 : decode cX6_joined 89 = .ok (.ifCond .ne 7, 3) := by decide +kernel
theorem dX6_joined_92 : decode cX6_joined 92 = .ok (.iload_n 2, 1) := by decide +kernel
theorem dX6_joined_93 : decode cX6_joined 93 = .ok (.ifCond .eq 7, 3) := by decide +kernel
theorem dX6_joined_96 : decode cX6_joined 96 = .ok (.iconst 1, 1) := by decide +kernel
theorem dX6_joined_97 : decode cX6_joined 97 = .ok (.goto 4, 3) := by decide +kernel
theorem dX6_joined_100 : decode cX6_joined 100 = .ok (.iconst 0, 1) := by decide +kernel
theorem dX6_joined_101 : decode cX6_joined 101 = .ok (.ireturn, 1) := by decide +kernel
theorem dJ6_bitCount_0f7a4_0 : decode cJ6_bitCount_0f7a4 0 = .ok (.iload_n 0, 1) := by decide +kernel
theorem dJ6_bitCount_0f7a4_1 : decode cJ6_bitCount_0f7a4 1 = .ok (.iload_n 0, 1) := by decide +kernel
theorem dJ6_bitCount_0f7a4_2 : decode cJ6_bitCount_0f7a4 2 = .ok (.iconst 1, 1) := by decide +kernel
theorem dJ6_bitCount_0f7a4_3 : decode cJ6_bitCount_0f7a4 3 = .ok (.iushr, 1) := by decide +kernel
theorem dJ6_bitCount_0f7a4_4 : decode cJ6_bitCount_0f7a4 4 = .ok (.ldc_w 265, 3) := by decide +kernel
theorem dJ6_bitCount_0f7a4_7 : decode cJ6_bitCount_0f7a4 7 = .ok (.iand, 1) := by decide +kernel
theorem dJ6_bitCount_0f7a4_8 : decode cJ6_bitCount_0f7a4 8 = .ok (.isub, 1) := by decide +kernel
theorem dJ6_bitCount_0f7a4_9 : decode cJ6_bitCount_0f7a4 9 = .ok (.istore_n 0, 1) := by decide +kernel
theorem dJ6_bitCount_0f7a4_10 : decode cJ6_bitCount_0f7a4 10 = .ok (.iload_n 0, 1) := by decide +kernel
theorem dJ6_bitCount_0f7a4_11 : decode cJ6_bitCount_0f7a4 11 = .ok (.ldc_w 266, 3) := by decide +kernel
theorem dJ6_bitCount_0f7a4_14 : decode cJ6_bitCount_0f7a4 14 = .ok (.iand, 1) := by decide +kernel
theorem dJ6_bitCount_0f7a4_15 : decode cJ6_bitCount_0f7a4 15 = .ok (.iload_n 0, 1) := by decide +kernel
theorem dJ6_bitCount_0f7a4_16 : decode cJ6_bitCount_0f7a4 16 = .ok (.iconst 2, 1) := by decide +kernel
theorem dJ6_bitCount_0f7a4_17 : decode cJ6_bitCount_0f7a4 17 = .ok (.iushr, 1) := by decide +kernel
theorem dJ6_bitCount_0f7a4_18 : decode cJ6_bitCount_0f7a4 18 = .ok (.ldc_w 266, 3) := by decide +kernel
theorem dJ6_bitCount_0f7a4_21 : decode cJ6_bitCount_0f7a4 21 = .ok (.iand, 1) := by decide +kernel
theorem dJ6_bitCount_0f7a4_22 : decode cJ6_bitCount_0f7a4 22 = .ok (.iadd, 1) := by decide +kernel
theorem dJ6_bitCount_0f7a4_23 : decode cJ6_bitCount_0f7a4 23 = .ok (.istore_n 0, 1) := by decide +kernel
theorem dJ6_bitCount_0f7a4_24 : decode cJ6_bitCount_0f7a4 24 = .ok (.iload_n 0, 1) := by decide +kernel
theorem dJ6_bitCount_0f7a4_25 : decode cJ6_bitCount_0f7a4 25 = .ok (.iload_n 0, 1) := by decide +kernel
theorem dJ6_bitCount_0f7a4_26 : decode cJ6_bitCount_0f7a4 26 = .ok (.iconst 4, 1) := by decide +kernel
theorem dJ6_bitCount_0f7a4_27 : decode cJ6_bitCount_0f7a4 27 = .ok (.iushr, 1) := by decide +kernel
theorem dJ6_bitCount_0f7a4_28 : decode cJ6_bitCount_0f7a4 28 = .ok (.iadd, 1) := by decide +kernel
theorem dJ6_bitCount_0f7a4_29 : decode cJ6_bitCount_0f7a4 29 = .ok (.ldc_w 267, 3) := by decide +kernel
theorem dJ6_bitCount_0f7a4_32 : decode cJ6_bitCount_0f7a4 32 = .ok (.iand, 1) := by decide +kernel
theorem dJ6_bitCount_0f7a4_33 : decode cJ6_bitCount_0f7a4 33 = .ok (.istore_n 0, 1) := by decide +kernel
theorem dJ6_bitCount_0f7a4_34 : decode cJ6_bitCount_0f7a4 34 = .ok (.iload_n 0, 1) := by decide +kernel
theorem dJ6_bitCount_0f7a4_35 : decode cJ6_bitCount_0f7a4 35 = .ok (.iload_n 0, 1) := by decide +kernel
theorem dJ6_bitCount_0f7a4_36 : decode cJ6_bitCount_0f7a4 36 = .ok (.bipush 8, 2) := by decide +kernel
theorem dJ6_bitCount_0f7a4_38 : decode cJ6_bitCount_0f7a4 38 = .ok (.iushr, 1) := by decide +kernel
theorem dJ6_bitCount_0f7a4_39 : decode cJ6_bitCount_0f7a4 39 = .ok (.iadd, 1) := by decide +kernel
theorem dJ6_bitCount_0f7a4_40 : decode cJ6_bitCount_0f7a4 40 = .ok (.istore_n 0, 1) := by decide +kernel
theorem dJ6_bitCount_0f7a4_41 : decode cJ6_bitCount_0f7a4 41 = .ok (.iload_n 0, 1) := by decide +kernel
theorem dJ6_bitCount_0f7a4_42 : decode cJ6_bitCount_0f7a4 42 = .ok (.iload_n 0, 1) := by decide +kernel
theorem dJ6_bitCount_0f7a4_43 : decode cJ6_bitCount_0f7a4 43 = .ok (.bipush 16, 2) := by decide +kernel
theorem dJ6_bitCount_0f7a4_45 : decode cJ6_bitCount_0f7a4 45 = .ok (.iushr, 1) := by decide +kernel
theorem dJ6_bitCount_0f7a4_46 : decode cJ6_bitCount_0f7a4 46 = .ok (.iadd, 1) := by decide +kernel
theorem dJ6_bitCount_0f7a4_47 : decode cJ6_bitCount_0f7a4 47 = .ok (.istore_n 0, 1) := by decide +kernel
theorem dJ6_bitCount_0f7a4_48 : decode cJ6_bitCount_0f7a4 48 = .ok (.iload_n 0, 1) := by decide +kernel
theorem dJ6_bitCount_0f7a4_49 : decode cJ6_bitCount_0f7a4 49 = .ok (.bipush 63, 2) := by decide +kernel
theorem dJ6_bitCount_0f7a4_51 : decode cJ6_bitCount_0f7a4 51 = .ok (.iand, 1) := by decide +kernel
theorem dJ6_bitCount_0f7a4_52 : decode cJ6_bitCount_0f7a4 52 = .ok (.ireturn, 1) := by decide +kernel
theorem dJ9_max_7cf53_0 : decode cJ9_max_7cf53 0 = .ok (.iload_n 0, 1) := by decide +kernel
theorem dJ9_max_7cf53_1 : decode cJ9_max_7cf53 1 = .ok (.iload_n 1, 1) := by decide +kernel
theorem dJ9_max_7cf53_2 : decode cJ9_max_7cf53 2 = .ok (.if_icmp .lt 7, 3) := by decide +kernel
theorem dJ9_max_7cf53_5 : decode cJ9_max_7cf53 5 = .ok (.iload_n 0, 1) := by decide +kernel
theorem dJ9_max_7cf53_6 : decode cJ9_max_7cf53 6 = .ok (.goto 4, 3) := by decide +kernel
theorem dJ9_max_7cf53_9 : decode cJ9_max_7cf53 9 = .ok (.iload_n 1, 1) := by decide +kernel
theorem dJ9_max_7cf53_10 : decode cJ9_max_7cf53 10 = .ok (.ireturn, 1) := by decide +kernel
theorem dJ9_min_7cf53_0 : decode cJ9_min_7cf53 0 = .ok (.iload_n 0, 1) := by decide +kernel
theorem dJ9_min_7cf53_1 : decode cJ9_min_7cf53 1 = .ok (.iload_n 1, 1) := by decide +kernel
theorem dJ9_min_7cf53_2 : decode cJ9_min_7cf53 2 = .ok (.if_icmp .gt 7, 3) := by decide +kernel
theorem dJ9_min_7cf53_5 : decode cJ9_min_7cf53 5 = .ok (.iload_n 0, 1) := by decide +kernel
theorem dJ9_min_7cf53_6 : decode cJ9_min_7cf53 6 = .ok (.goto 4, 3) := by decide +kernel
theorem dJ9_min_7cf53_9 : decode cJ9_min_7cf53 9 = .ok (.iload_n 1, 1) := by decide +kernel
theorem dJ9_min_7cf53_10 : decode cJ9_min_7cf53 10 = .ok (.ireturn, 1) := by decide +kernel
theorem dJ0_length_8abf5_0 : decode cJ0_length_8abf5 0 = .ok (.aload_n 0, 1) := by decide +kernel
theorem dJ0_length_8abf5_1 : decode cJ0_length_8abf5 1 = .ok (.getfield 9, 3) := by decide +kernel
theorem dJ0_length_8abf5_4 : decode cJ0_length_8abf5 4 = .ok (.arraylength, 1) := by decide +kernel
theorem dJ0_length_8abf5_5 : decode cJ0_length_8abf5 5 = .ok (.aload_n 0, 1) := by decide +kernel
theorem dJ0_length_8abf5_6 : decode cJ0_length_8abf5 6 = .ok (.invokevirtual 335, 3) := by decide +kernel
theorem dJ0_length_8abf5_9 : decode cJ0_length_8abf5 9 = .ok (.ishr, 1) := by decide +kernel
theorem dJ0_length_8abf5_10 : decode cJ0_length_8abf5 10 = .ok (.ireturn, 1) := by decide +kernel
theorem dJ0_charAt_5068e_0 : decode cJ0_charAt_5068e 0 = .ok (.aload_n 0, 1) := by decide +kernel
theorem dJ0_charAt_5068e_1 : decode cJ0_charAt_5068e 1 = .ok (.invokevirtual 492, 3) := by decide +kernel
theorem dJ0_charAt_5068e_4 : decode cJ0_charAt_5068e 4 = .ok (.ifCond .eq 12, 3) := by decide +kernel
theorem dJ0_charAt_5068e_7 : decode cJ0_charAt_5068e 7 = .ok (.aload_n 0, 1) := by decide +kernel
theorem dJ0_charAt_5068e_8 : decode cJ0_charAt_5068e 8 = .ok (.getfield 9, 3) := by decide +kernel
theorem dJ0_charAt_5068e_11 : decode cJ0_charAt_5068e 11 = .ok (.iload_n 1, 1) := by decide +kernel
theorem dJ0_charAt_5068e_12 : decode cJ0_charAt_5068e 12 = .ok (.invokestatic 495, 3) := by decide +kernel
theorem dJ0_charAt_5068e_15 : decode cJ0_charAt_5068e 15 = .ok (.ireturn, 1) := by decide +kernel
theorem dJ0_charAt_5068e_16 : decode cJ0_charAt_5068e 16 = .ok (.aload_n 0, 1) := by decide +kernel
theorem dJ0_charAt_5068e_17 : decode cJ0_charAt_5068e 17 = .ok (.getfield 9, 3) := by decide +kernel
theorem dJ0_charAt_5068e_20 : decode cJ0_charAt_5068e 20 = .ok (.iload_n 1, 1) := by decide +kernel
theorem dJ0_charAt_5068e_21 : decode cJ0_charAt_5068e 21 = .ok (.invokestatic 498, 3) := by decide +kernel
theorem dJ0_charAt_5068e_24 : decode cJ0_charAt_5068e 24 = .ok (.ireturn, 1) := by decide +kernel
theorem dJ0_coder_7d493_0 : decode cJ0_coder_7d493 0 = .ok (.getstatic 38, 3) := by decide +kernel
theorem dJ0_coder_7d493_3 : decode cJ0_coder_7d493 3 = .ok (.ifCond .eq 10, 3) := by decide +kernel
theorem dJ0_coder_7d493_6 : decode cJ0_coder_7d493 6 = .ok (.aload_n 0, 1) := by decide +kernel
theorem dJ0_coder_7d493_7 : decode cJ0_coder_7d493 7 = .ok (.getfield 15, 3) := by decide +kernel
theorem dJ0_coder_7d493_10 : decode cJ0_coder_7d493 10 = .ok (.goto 4, 3) := by decide +kernel
theorem dJ0_coder_7d493_13 : decode cJ0_coder_7d493 13 = .ok (.iconst 1, 1) := by decide +kernel
theorem dJ0_coder_7d493_14 : decode cJ0_coder_7d493 14 = .ok (.ireturn, 1) := by decide +kernel
theorem dJ0_isLatin1_aae02_0 : decode cJ0_isLatin1_aae02 0 = .ok (.getstatic 38, 3) := by decide +kernel
theorem dJ0_isLatin1_aae02_3 : decode cJ0_isLatin1_aae02 3 = .ok (.ifCond .eq 14, 3) := by decide +kernel
theorem dJ0_isLatin1_aae02_6 : decode cJ0_isLatin1_aae02 6 = .ok (.aload_n 0, 1) := by decide +kernel
theorem dJ0_isLatin1_aae02_7 : decode cJ0_isLatin1_aae02 7 = .ok (.getfield 15, 3) := by decide +kernel
theorem dJ0_isLatin1_aae02_10 : decode cJ0_isLatin1_aae02 10 = .ok (.ifCond .ne 7, 3) := by decide +kernel
theorem dJ0_isLatin1_aae02_13 : decode cJ0_isLatin1_aae02 13 = .ok (.iconst 1, 1) := by decide +kernel
theorem dJ0_isLatin1_aae02_14 : decode cJ0_isLatin1_aae02 14 = .ok (.goto 4, 3) := by decide +kernel
theorem dJ0_isLatin1_aae02_17 : decode cJ0_isLatin1_aae02 17 = .ok (.iconst 0, 1) := by decide +kernel
theorem dJ0_isLatin1_aae02_18 : decode cJ0_isLatin1_aae02 18 = .ok (.ireturn, 1) := by decide +kernel
theorem dJ0_checkIndex_df160_0 : decode cJ0_checkIndex_df160 0 = .ok (.iload_n 0, 1) := by decide +kernel
theorem dJ0_checkIndex_df160_1 : decode cJ0_checkIndex_df160 1 = .ok (.iload_n 1, 1) := by decide +kernel
theorem dJ0_checkIndex_df160_2 : decode cJ0_checkIndex_df160 2 = .ok (.getstatic 1053, 3) := by decide +kernel
theorem dJ0_checkIndex_df160_5 : decode cJ0_checkIndex_df160 5 = .ok (.invokestatic 1059, 3) := by decide +kernel
theorem dJ0_checkIndex_df160_8 : decode cJ0_checkIndex_df160 8 = .ok (.pop, 1) := by decide +kernel
theorem dJ0_checkIndex_df160_9 : decode cJ0_checkIndex_df160 9 = .ok (.return_, 1) := by decide +kernel
theorem dJ1_charAt_3b067_0 : decode cJ1_charAt_3b067 0 = .ok (.iload_n 1, 1) := by decide +kernel
theorem dJ1_charAt_3b067_1 : decode cJ1_charAt_3b067 1 = .ok (.aload_n 0, 1) := by decide +kernel
theorem dJ1_charAt_3b067_2 : decode cJ1_charAt_3b067 2 = .ok (.arraylength, 1) := by decide +kernel
theorem dJ1_charAt_3b067_3 : decode cJ1_charAt_3b067 3 = .ok (.invokestatic 9, 3) := by decide +kernel
theorem dJ1_charAt_3b067_6 : decode cJ1_charAt_3b067 6 = .ok (.aload_n 0, 1) := by decide +kernel
theorem dJ1_charAt_3b067_7 : decode cJ1_charAt_3b067 7 = .ok (.iload_n 1, 1) := by decide +kernel
theorem dJ1_charAt_3b067_8 : decode cJ1_charAt_3b067 8 = .ok (.baload, 1) := by decide +kernel
theorem dJ1_charAt_3b067_9 : decode cJ1_charAt_3b067 9 = .ok (.sipush 255, 3) := by decide +kernel
theorem dJ1_charAt_3b067_12 : decode cJ1_charAt_3b067 12 = .ok (.iand, 1) := by decide +kernel
theorem dJ1_charAt_3b067_13 : decode cJ1_charAt_3b067 13 = .ok (.i2c, 1) := by decide +kernel
theorem dJ1_charAt_3b067_14 : decode cJ1_charAt_3b067 14 = .ok (.ireturn, 1) := by decide +kernel
theorem dJ2_getChar_3b067_0 : decode cJ2_getChar_3b067 0 = .ok (.getstatic 44, 3) := by decide +kernel
theorem dJ2_getChar_3b067_3 : decode cJ2_getChar_3b067 3 = .ok (.ifCond .ne 25, 3) := by decide +kernel
theorem dJ2_getChar_3b067_6 : decode cJ2_getChar_3b067 6 = .ok (.iload_n 1, 1) := by decide +kernel
theorem dJ2_getChar_3b067_7 : decode cJ2_getChar_3b067 7 = .ok (.ifCond .lt 11, 3) := by decide +kernel
theorem dJ2_getChar_3b067_10 : decode cJ2_getChar_3b067 10 = .ok (.iload_n 1, 1) := by decide +kernel
theorem dJ2_getChar_3b067_11 : decode cJ2_getChar_3b067 11 = .ok (.aload_n 0, 1) := by decide +kernel
theorem dJ2_getChar_3b067_12 : decode cJ2_getChar_3b067 12 = .ok (.invokestatic 48, 3) := by decide +kernel
theorem dJ2_getChar_3b067_15 : decode cJ2_getChar_3b067 15 = .ok (.if_icmp .lt 13, 3) := by decide +kernel
theorem dJ2_getChar_3b067_18 : decode cJ2_getChar_3b067 18 = .ok (.new 52, 3) := by decide +kernel
theorem dJ2_getChar_3b067_21 : decode cJ2_getChar_3b067 21 = .ok (.dup, 1) := by decide +kernel
theorem dJ2_getChar_3b067_22 : decode cJ2_getChar_3b067 22 = .ok (.ldc 54, 2) := by decide +kernel
theorem dJ2_getChar_3b067_24 : decode cJ2_getChar_3b067 24 = .ok (.invokespecial 56, 3) := by decide +kernel
theorem dJ2_getChar_3b067_27 : decode cJ2_getChar_3b067 27 = .ok (.athrow, 1) := by decide +kernel
theorem dJ2_getChar_3b067_28 : decode cJ2_getChar_3b067 28 = .ok (.iload_n 1, 1) := by decide +kernel
theorem dJ2_getChar_3b067_29 : decode cJ2_getChar_3b067 29 = .ok (.iconst 1, 1) := by decide +kernel
theorem dJ2_getChar_3b067_30 : decode cJ2_getChar_3b067 30 = .ok (.ishl, 1) := by decide +kernel
theorem dJ2_getChar_3b067_31 : decode cJ2_getChar_3b067 31 = .ok (.istore_n 1, 1) := by decide +kernel
theorem dJ2_getChar_3b067_32 : decode cJ2_getChar_3b067 32 = .ok (.aload_n 0, 1) := by decide +kernel
theorem dJ2_getChar_3b067_33 : decode cJ2_getChar_3b067 33 = .ok (.iload_n 1, 1) := by decide +kernel
theorem dJ2_getChar_3b067_34 : decode cJ2_getChar_3b067 34 = .ok (.iinc 1 1, 3) := by decide +kernel
theorem dJ2_getChar_3b067_37 : decode cJ2_getChar_3b067 37 = .ok (.baload, 1) := by decide +kernel
theorem dJ2_getChar_3b067_38 : decode cJ2_getChar_3b067 38 = .ok (.sipush 255, 3) := by decide +kernel
theorem dJ2_getChar_3b067_41 : decode cJ2_getChar_3b067 41 = .ok (.iand, 1) := by decide +kernel
theorem dJ2_getChar_3b067_42 : decode cJ2_getChar_3b067 42 = .ok (.getstatic 59, 3) := by decide +kernel
theorem dJ2_getChar_3b067_45 : decode cJ2_getChar_3b067 45 = .ok (.ishl, 1) := by decide +kernel
theorem dJ2_getChar_3b067_46 : decode cJ2_getChar_3b067 46 = .ok (.aload_n 0, 1) := by decide +kernel
theorem dJ2_getChar_3b067_47 : decode cJ2_getChar_3b067 47 = .ok (.iload_n 1, 1) := by decide +kernel
theorem dJ2_getChar_3b067_48 : decode cJ2_getChar_3b067 48 = .ok (.baload, 1) := by decide +kernel
theorem dJ2_getChar_3b067_49 : decode cJ2_getChar_3b067 49 = .ok (.sipush 255, 3) := by decide +kernel
theorem dJ2_getChar_3b067_52 : decode cJ2_getChar_3b067 52 = .ok (.iand, 1) := by decide +kernel
theorem dJ2_getChar_3b067_53 : decode cJ2_getChar_3b067 53 = .ok (.getstatic 63, 3) := by decide +kernel
theorem dJ2_getChar_3b067_56 : decode cJ2_getChar_3b067 56 = .ok (.ishl, 1) := by decide +kernel
theorem dJ2_getChar_3b067_57 : decode cJ2_getChar_3b067 57 = .ok (.ior, 1) := by decide +kernel
theorem dJ2_getChar_3b067_58 : decode cJ2_getChar_3b067 58 = .ok (.i2c, 1) := by decide +kernel
theorem dJ2_getChar_3b067_59 : decode cJ2_getChar_3b067 59 = .ok (.ireturn, 1) := by decide +kernel
theorem dJ2_length_9d52b_0 : decode cJ2_length_9d52b 0 = .ok (.aload_n 0, 1) := by decide +kernel
theorem dJ2_length_9d52b_1 : decode cJ2_length_9d52b 1 = .ok (.arraylength, 1) := by decide +kernel
theorem dJ2_length_9d52b_2 : decode cJ2_length_9d52b 2 = .ok (.iconst 1, 1) := by decide +kernel
theorem dJ2_length_9d52b_3 : decode cJ2_length_9d52b 3 = .ok (.ishr, 1) := by decide +kernel
theorem dJ2_length_9d52b_4 : decode cJ2_length_9d52b 4 = .ok (.ireturn, 1) := by decide +kernel
theorem dJ2_charAt_3b067_0 : decode cJ2_charAt_3b067 0 = .ok (.iload_n 1, 1) := by decide +kernel
theorem dJ2_charAt_3b067_1 : decode cJ2_charAt_3b067 1 = .ok (.aload_n 0, 1) := by decide +kernel
theorem dJ2_charAt_3b067_2 : decode cJ2_charAt_3b067 2 = .ok (.invokestatic 67, 3) := by decide +kernel
theorem dJ2_charAt_3b067_5 : decode cJ2_charAt_3b067 5 = .ok (.aload_n 0, 1) := by decide +kernel
theorem dJ2_charAt_3b067_6 : decode cJ2_charAt_3b067 6 = .ok (.iload_n 1, 1) := by decide +kernel
theorem dJ2_charAt_3b067_7 : decode cJ2_charAt_3b067 7 = .ok (.invokestatic 71, 3) := by decide +kernel
theorem dJ2_charAt_3b067_10 : decode cJ2_charAt_3b067 10 = .ok (.ireturn, 1) := by decide +kernel
theorem dJ2_checkIndex_2214a_0 : decode cJ2_checkIndex_2214a 0 = .ok (.iload_n 0, 1) := by decide +kernel
theorem dJ2_checkIndex_2214a_1 : decode cJ2_checkIndex_2214a 1 = .ok (.aload_n 1, 1) := by decide +kernel
theorem dJ2_checkIndex_2214a_2 : decode cJ2_checkIndex_2214a 2 = .ok (.invokestatic 48, 3) := by decide +kernel
theorem dJ2_checkIndex_2214a_5 : decode cJ2_checkIndex_2214a 5 = .ok (.invokestatic 414, 3) := by decide +kernel
theorem dJ2_checkIndex_2214a_8 : decode cJ2_checkIndex_2214a 8 = .ok (.return_, 1) := by decide +kernel
theorem dJ7_fill_53178_0 : decode cJ7_fill_53178 0 = .ok (.iconst 0, 1) := by decide +kernel
theorem dJ7_fill_53178_1 : decode cJ7_fill_53178 1 = .ok (.istore_n 2, 1) := by decide +kernel
theorem dJ7_fill_53178_2 : decode cJ7_fill_53178 2 = .ok (.aload_n 0, 1) := by decide +kernel
theorem dJ7_fill_53178_3 : decode cJ7_fill_53178 3 = .ok (.arraylength, 1) := by decide +kernel
theorem dJ7_fill_53178_4 : decode cJ7_fill_53178 4 = .ok (.istore_n 3, 1) := by decide +kernel
theorem dJ7_fill_53178_5 : decode cJ7_fill_53178 5 = .ok (.iload_n 2, 1) := by decide +kernel
theorem dJ7_fill_53178_6 : decode cJ7_fill_53178 6 = .ok (.iload_n 3, 1) := by decide +kernel
theorem dJ7_fill_53178_7 : decode cJ7_fill_53178 7 = .ok (.if_icmp .ge 13, 3) := by decide +kernel
theorem dJ7_fill_53178_10 : decode cJ7_fill_53178 10 = .ok (.aload_n 0, 1) := by decide +kernel
theorem dJ7_fill_53178_11 : decode cJ7_fill_53178 11 = .ok (.iload_n 2, 1) := by decide +kernel
theorem dJ7_fill_53178_12 : decode cJ7_fill_53178 12 = .ok (.iload_n 1, 1) := by decide +kernel
theorem dJ7_fill_53178_13 : decode cJ7_fill_53178 13 = .ok (.iastore, 1) := by decide +kernel
theorem dJ7_fill_53178_14 : decode cJ7_fill_53178 14 = .ok (.iinc 2 1, 3) := by decide +kernel
theorem dJ7_fill_53178_17 : decode cJ7_fill_53178 17 = .ok (.goto (-12), 3) := by decide +kernel
theorem dJ7_fill_53178_20 : decode cJ7_fill_53178 20 = .ok (.return_, 1) := by decide +kernel
theorem dJ3_checkIndex_8e157_0 : decode cJ3_checkIndex_8e157 0 = .ok (.iload_n 0, 1) := by decide +kernel
theorem dJ3_checkIndex_8e157_1 : decode cJ3_checkIndex_8e157 1 = .ok (.ifCond .lt 8, 3) := by decide +kernel
theorem dJ3_checkIndex_8e157_4 : decode cJ3_checkIndex_8e157 4 = .ok (.iload_n 0, 1) := by decide +kernel
theorem dJ3_checkIndex_8e157_5 : decode cJ3_checkIndex_8e157 5 = .ok (.iload_n 1, 1) := by decide +kernel
theorem dJ3_checkIndex_8e157_6 : decode cJ3_checkIndex_8e157 6 = .ok (.if_icmp .lt 10, 3) := by decide +kernel
theorem dJ3_checkIndex_8e157_9 : decode cJ3_checkIndex_8e157 9 = .ok (.aload_n 2, 1) := by decide +kernel
theorem dJ3_checkIndex_8e157_10 : decode cJ3_checkIndex_8e157 10 = .ok (.iload_n 0, 1) := by decide +kernel
theorem dJ3_checkIndex_8e157_11 : decode cJ3_checkIndex_8e157 11 = .ok (.iload_n 1, 1) := by decide +kernel
theorem dJ3_checkIndex_8e157_12 : decode cJ3_checkIndex_8e157 12 = .ok (.invokestatic 95, 3) := by decide +kernel
theorem dJ3_checkIndex_8e157_15 : decode cJ3_checkIndex_8e157 15 = .ok (.athrow, 1) := by decide +kernel
theorem dJ3_checkIndex_8e157_16 : decode cJ3_checkIndex_8e157 16 = .ok (.iload_n 0, 1) := by decide +kernel
theorem dJ3_checkIndex_8e157_17 : decode cJ3_checkIndex_8e157 17 = .ok (.ireturn, 1) := by decide +kernel
end
section
theorem dX7_init_0 : decode cX7_init 0 = .ok (.aload_n 0, 1) := by decide +kernel
theorem dX7_init_1 : decode cX7_init 1 = .ok (.invokespecial 1, 3) := by decide +kernel
theorem dX7_init_4 : decode cX7_init 4 = .ok (.aload_n 0, 1) := by decide +kernel
theorem dX7_init_5 : decode cX7_init 5 = .ok (.new 7, 3) := by decide +kernel
theorem dX7_init_8 : decode cX7_init 8 = .ok (.dup, 1) := by decide +kernel
theorem dX7_init_9 : decode cX7_init 9 = .ok (.invokespecial 9, 3) := by decide +kernel
theorem dX7_init_12 : decode cX7_init 12 = .ok (.putfield 10, 3) := by decide +kernel
theorem dX7_init_15 : decode cX7_init 15 = .ok (.aload_n 0, 1) := by decide +kernel
theorem dX7_init_16 : decode cX7_init 16 = .ok (.new 7, 3) := by decide +kernel
theorem dX7_init_19 : decode cX7_init 19 = .ok (.dup, 1) := by decide +kernel
theorem dX7_init_20 : decode cX7_init 20 = .ok (.invokespecial 9, 3) := by decide +kernel
theorem dX7_init_23 : decode cX7_init 23 = .ok (.putfield 16, 3) := by decide +kernel
theorem dX7_init_26 : decode cX7_init 26 = .ok (.aload_n 0, 1) := by decide +kernel
theorem dX7_init_27 : decode cX7_init 27 = .ok (.new 7, 3) := by decide +kernel
theorem dX7_init_30 : decode cX7_init 30 = .ok (.dup, 1) := by decide +kernel
theorem dX7_init_31 : decode cX7_init 31 = .ok (.invokespecial 9, 3) := by decide +kernel
theorem dX7_init_34 : decode cX7_init 34 = .ok (.putfield 19, 3) := by decide +kernel
theorem dX7_init_37 : decode cX7_init 37 = .ok (.aload_n 0, 1) := by decide +kernel
theorem dX7_init_38 : decode cX7_init 38 = .ok (.new 22, 3) := by decide +kernel
theorem dX7_init_41 : decode cX7_init 41 = .ok (.dup, 1) := by decide +kernel
theorem dX7_init_42 : decode cX7_init 42 = .ok (.invokespecial 24, 3) := by decide +kernel
theorem dX7_init_45 : decode cX7_init 45 = .ok (.putfield 25, 3) := by decide +kernel
theorem dX7_init_48 : decode cX7_init 48 = .ok (.aload_n 0, 1) := by decide +kernel
theorem dX7_init_49 : decode cX7_init 49 = .ok (.new 29, 3) := by decide +kernel
theorem dX7_init_52 : decode cX7_init 52 = .ok (.dup, 1) := by decide +kernel
theorem dX7_init_53 : decode cX7_init 53 = .ok (.invokespecial 31, 3) := by decide +kernel
theorem dX7_init_56 : decode cX7_init 56 = .ok (.putfield 32, 3) := by decide +kernel
theorem dX7_init_59 : decode cX7_init 59 = .ok (.aload_n 0, 1) := by decide +kernel
theorem dX7_init_60 : decode cX7_init 60 = .ok (.new 36, 3) := by decide +kernel
theorem dX7_init_63 : decode cX7_init 63 = .ok (.dup, 1) := by decide +kernel
theorem dX7_init_64 : decode cX7_init 64 = .ok (.aload_n 0, 1) := by decide +kernel
theorem dX7_init_65 : decode cX7_init 65 = .ok (.getfield 25, 3) := by decide +kernel
theorem dX7_init_68 : decode cX7_init 68 = .ok (.invokespecial 38, 3) := by decide +kernel
theorem dX7_init_71 : decode cX7_init 71 = .ok (.putfield 41, 3) := by decide +kernel
theorem dX7_init_74 : decode cX7_init 74 = .ok (.aload_n 0, 1) := by decide +kernel
theorem dX7_init_75 : decode cX7_init 75 = .ok (.new 45, 3) := by decide +kernel
theorem dX7_init_78 : decode cX7_init 78 = .ok (.dup, 1) := by decide +kernel
theorem dX7_init_79 : decode cX7_init 79 = .ok (.aload_n 0, 1) := by decide +kernel
theorem dX7_init_80 : decode cX7_init 80 = .ok (.getfield 41, 3) := by decide +kernel
theorem dX7_init_83 : decode cX7_init 83 = .ok (.aload_n 0, 1) := by decide +kernel
theorem dX7_init_84 : decode cX7_init 84 = .ok (.getfield 19, 3) := by decide +kernel
theorem dX7_init_87 : decode cX7_init 87 = .ok (.invokespecial 47, 3) := by decide +kernel
theorem dX7_init_90 : decode cX7_init 90 = .ok (.putfield 50, 3) := by decide +kernel
theorem dX7_init_93 : decode cX7_init 93 = .ok (.aload_n 0, 1) := by decide +kernel
theorem dX7_init_94 : decode cX7_init 94 = .ok (.new 54, 3) := by decide +kernel
theorem dX7_init_97 : decode cX7_init 97 = .ok (.dup, 1) := by decide +kernel
theorem dX7_init_98 : decode cX7_init 98 = .ok (.invokespecial 56, 3) := by decide +kernel
theorem dX7_init_101 : decode cX7_init 101 = .ok (.putfield 57, 3) := by decide +kernel
theorem dX7_init_104 : decode cX7_init 104 = .ok (.return_, 1) := by decide +kernel
theorem dX7_set_0 : decode cX7_set 0 = .ok (.iload_n 1, 1) := by decide +kernel
theorem dX7_set_1 : decode cX7_set 1 = .ok (.ifCond .lt 30, 3) := by decide +kernel
theorem dX7_set_4 : decode cX7_set 4 = .ok (.iload_n 1, 1) := by decide +kernel
theorem dX7_set_5 : decode cX7_set 5 = .ok (.iconst 4, 1) := by decide +kernel
theorem dX7_set_6 : decode cX7_set 6 = .ok (.if_icmp .gt 25, 3) := by decide +kernel
theorem dX7_set_9 : decode cX7_set 9 = .ok (.aload_n 0, 1) := by decide +kernel
theorem dX7_set_10 : decode cX7_set 10 = .ok (.iload_n 1, 1) := by decide +kernel
theorem dX7_set_11 : decode cX7_set 11 = .ok (.iload_n 2, 1) := by decide +kernel
theorem dX7_set_12 : decode cX7_set 12 = .ok (.invokevirtual 61, 3) := by decide +kernel
theorem dX7_set_15 : decode cX7_set 15 = .ok (.ifCond .ne 16, 3) := by decide +kernel
theorem dX7_set_18 : decode cX7_set 18 = .ok (.iload_n 3, 1) := by decide +kernel
theorem dX7_set_19 : decode cX7_set 19 = .ok (.ifCond .lt 12, 3) := by decide +kernel
theorem dX7_set_22 : decode cX7_set 22 = .ok (.iload_n 3, 1) := by decide +kernel
theorem dX7_set_23 : decode cX7_set 23 = .ok (.getstatic 65, 3) := by decide +kernel
theorem dX7_set_26 : decode cX7_set 26 = .ok (.iload_n 1, 1) := by decide +kernel
theorem dX7_set_27 : decode cX7_set 27 = .ok (.iaload, 1) := by decide +kernel
theorem dX7_set_28 : decode cX7_set 28 = .ok (.if_icmp .le 6, 3) := by decide +kernel
theorem dX7_set_31 : decode cX7_set 31 = .ok (.bipush (-2), 2) := by decide +kernel
theorem dX7_set_33 : decode cX7_set 33 = .ok (.ireturn, 1) := by decide +kernel
theorem dX7_set_34 : decode cX7_set 34 = .ok (.aload_n 0, 1) := by decide +kernel
theorem dX7_set_35 : decode cX7_set 35 = .ok (.getfield 10, 3) := by decide +kernel
theorem dX7_set_38 : decode cX7_set 38 = .ok (.iload_n 1, 1) := by decide +kernel
theorem dX7_set_39 : decode cX7_set 39 = .ok (.iload_n 2, 1) := by decide +kernel
theorem dX7_set_40 : decode cX7_set 40 = .ok (.invokevirtual 69, 3) := by decide +kernel
theorem dX7_set_43 : decode cX7_set 43 = .ok (.istore 4, 2) := by decide +kernel
theorem dX7_set_45 : decode cX7_set 45 = .ok (.aload_n 0, 1) := by decide +kernel
theorem dX7_set_46 : decode cX7_set 46 = .ok (.getfield 10, 3) := by decide +kernel
theorem dX7_set_49 : decode cX7_set 49 = .ok (.iload_n 1, 1) := by decide +kernel
theorem dX7_set_50 : decode cX7_set 50 = .ok (.iload_n 2, 1) := by decide +kernel
theorem dX7_set_51 : decode cX7_set 51 = .ok (.iload_n 3, 1) := by decide +kernel
theorem dX7_set_52 : decode cX7_set 52 = .ok (.invokevirtual 73, 3) := by decide +kernel
theorem dX7_set_55 : decode cX7_set 55 = .ok (.iload 4, 2) := by decide +kernel
theorem dX7_set_57 : decode cX7_set 57 = .ok (.ireturn, 1) := by decide +kernel
theorem dX7_part_0 : decode cX7_part 0 = .ok (.iload_n 1, 1) := by decide +kernel
theorem dX7_part_1 : decode cX7_part 1 = .ok (.ifCond .lt 22, 3) := by decide +kernel
theorem dX7_part_4 : decode cX7_part 4 = .ok (.iload_n 1, 1) := by decide +kernel
theorem dX7_part_5 : decode cX7_part 5 = .ok (.bipush 6, 2) := by decide +kernel
theorem dX7_part_7 : decode cX7_part 7 = .ok (.if_icmp .ge 16, 3) := by decide +kernel
theorem dX7_part_10 : decode cX7_part 10 = .ok (.iload_n 2, 1) := by decide +kernel
theorem dX7_part_11 : decode cX7_part 11 = .ok (.ifCond .lt 12, 3) := by decide +kernel
theorem dX7_part_14 : decode cX7_part 14 = .ok (.iload_n 2, 1) := by decide +kernel
theorem dX7_part_15 : decode cX7_part 15 = .ok (.getstatic 65, 3) := by decide +kernel
theorem dX7_part_18 : decode cX7_part 18 = .ok (.iconst 2, 1) := by decide +kernel
theorem dX7_part_19 : decode cX7_part 19 = .ok (.iaload, 1) := by decide +kernel
theorem dX7_part_20 : decode cX7_part 20 = .ok (.if_icmp .le 6, 3) := by decide +kernel
theorem dX7_part_23 : decode cX7_part 23 = .ok (.bipush (-2), 2) := by decide +kernel
theorem dX7_part_25 : decode cX7_part 25 = .ok (.ireturn, 1) := by decide +kernel
theorem dX7_part_26 : decode cX7_part 26 = .ok (.aload_n 0, 1) := by decide +kernel
theorem dX7_part_27 : decode cX7_part 27 = .ok (.getfield 10, 3) := by decide +kernel
theorem dX7_part_30 : decode cX7_part 30 = .ok (.iload_n 1, 1) := by decide +kernel
theorem dX7_part_31 : decode cX7_part 31 = .ok (.iload_n 2, 1) := by decide +kernel
theorem dX7_part_32 : decode cX7_part 32 = .ok (.invokevirtual 79, 3) := by decide +kernel
theorem dX7_part_35 : decode cX7_part 35 = .ok (.ifCond .eq 15, 3) := by decide +kernel
theorem dX7_part_38 : decode cX7_part 38 = .ok (.aload_n 0, 1) := by decide +kernel
theorem dX7_part_39 : decode cX7_part 39 = .ok (.getfield 10, 3) := by decide +kernel
theorem dX7_part_42 : decode cX7_part 42 = .ok (.getfield 82, 3) := by decide +kernel
theorem dX7_part_45 : decode cX7_part 45 = .ok (.iconst 1, 1) := by decide +kernel
theorem dX7_part_46 : decode cX7_part 46 = .ok (.isub, 1) := by decide +kernel
theorem dX7_part_47 : decode cX7_part 47 = .ok (.goto 5, 3) := by decide +kernel
theorem dX7_part_50 : decode cX7_part 50 = .ok (.bipush (-4), 2) := by decide +kernel
theorem dX7_part_52 : decode cX7_part 52 = .ok (.ireturn, 1) := by decide +kernel
theorem dX7_told_0 : decode cX7_told 0 = .ok (.iload_n 2, 1) := by decide +kernel
theorem dX7_told_1 : decode cX7_told 1 = .ok (.ifCond .lt 18, 3) := by decide +kernel
theorem dX7_told_4 : decode cX7_told 4 = .ok (.iload_n 2, 1) := by decide +kernel
theorem dX7_told_5 : decode cX7_told 5 = .ok (.bipush 9, 2) := by decide +kernel
theorem dX7_told_7 : decode cX7_told 7 = .ok (.if_icmp .gt 12, 3) := by decide +kernel
theorem dX7_told_10 : decode cX7_told 10 = .ok (.aload_n 0, 1) := by decide +kernel
theorem dX7_told_11 : decode cX7_told 11 = .ok (.iload_n 2, 1) := by decide +kernel
theorem dX7_told_12 : decode cX7_told 12 = .ok (.iload_n 1, 1) := by decide +kernel
theorem dX7_told_13 : decode cX7_told 13 = .ok (.invokevirtual 61, 3) := by decide +kernel
theorem dX7_told_16 : decode cX7_told 16 = .ok (.ifCond .eq 6, 3) := by decide +kernel
theorem dX7_told_19 : decode cX7_told 19 = .ok (.bipush (-2), 2) := by decide +kernel
theorem dX7_told_21 : decode cX7_told 21 = .ok (.ireturn, 1) := by decide +kernel
theorem dX7_told_22 : decode cX7_told 22 = .ok (.iload_n 2, 1) := by decide +kernel
theorem dX7_told_23 : decode cX7_told 23 = .ok (.iconst 5, 1) := by decide +kernel
theorem dX7_told_24 : decode cX7_told 24 = .ok (.if_icmp .gt 13, 3) := by decide +kernel
theorem dX7_told_27 : decode cX7_told 27 = .ok (.aload_n 0, 1) := by decide +kernel
theorem dX7_told_28 : decode cX7_told 28 = .ok (.getfield 10, 3) := by decide +kernel
theorem dX7_told_31 : decode cX7_told 31 = .ok (.iload_n 2, 1) := by decide +kernel
theorem dX7_told_32 : decode cX7_told 32 = .ok (.iload_n 1, 1) := by decide +kernel
theorem dX7_told_33 : decode cX7_told 33 = .ok (.invokevirtual 69, 3) := by decide +kernel
theorem dX7_told_36 : decode cX7_told 36 = .ok (.ireturn, 1) := by decide +kernel
theorem dX7_told_37 : decode cX7_told 37 = .ok (.iload_n 2, 1) := by decide +kernel
theorem dX7_told_38 : decode cX7_told 38 = .ok (.bipush 6, 2) := by decide +kernel
theorem dX7_told_40 : decode cX7_told 40 = .ok (.if_icmp .ne 16, 3) := by decide +kernel
theorem dX7_told_43 : decode cX7_told 43 = .ok (.aload_n 0, 1) := by decide +kernel
theorem dX7_told_44 : decode cX7_told 44 = .ok (.getfield 10, 3) := by decide +kernel
theorem dX7_told_47 : decode cX7_told 47 = .ok (.getfield 86, 3) := by decide +kernel
theorem dX7_told_50 : decode cX7_told 50 = .ok (.iload_n 1, 1) := by decide +kernel
theorem dX7_told_51 : decode cX7_told 51 = .ok (.iaload, 1) := by decide +kernel
theorem dX7_told_52 : decode cX7_told 52 = .ok (.invokestatic 89, 3) := by decide +kernel
theorem dX7_told_55 : decode cX7_told 55 = .ok (.ireturn, 1) := by decide +kernel
theorem dX7_told_56 : decode cX7_told 56 = .ok (.aload_n 0, 1) := by decide +kernel
theorem dX7_told_57 : decode cX7_told 57 = .ok (.getfield 41, 3) := by decide +kernel
theorem dX7_told_60 : decode cX7_told 60 = .ok (.aload_n 0, 1) := by decide +kernel
theorem dX7_told_61 : decode cX7_told 61 = .ok (.getfield 10, 3) := by decide +kernel
theorem dX7_told_64 : decode cX7_told 64 = .ok (.invokevirtual 93, 3) := by decide +kernel
theorem dX7_told_67 : decode cX7_told 67 = .ok (.aload_n 0, 1) := by decide +kernel
theorem dX7_told_68 : decode cX7_told 68 = .ok (.getfield 10, 3) := by decide +kernel
theorem dX7_told_71 : decode cX7_told 71 = .ok (.getfield 97, 3) := by decide +kernel
theorem dX7_told_74 : decode cX7_told 74 = .ok (.iload_n 1, 1) := by decide +kernel
theorem dX7_told_75 : decode cX7_told 75 = .ok (.iaload, 1) := by decide +kernel
theorem dX7_told_76 : decode cX7_told 76 = .ok (.istore_n 3, 1) := by decide +kernel
theorem dX7_told_77 : decode cX7_told 77 = .ok (.iload_n 2, 1) := by decide +kernel
theorem dX7_told_78 : decode cX7_told 78 = .ok (.bipush 7, 2) := by decide +kernel
theorem dX7_told_80 : decode cX7_told 80 = .ok (.if_icmp .ne 13, 3) := by decide +kernel
theorem dX7_told_83 : decode cX7_told 83 = .ok (.aload_n 0, 1) := by decide +kernel
theorem dX7_told_84 : decode cX7_told 84 = .ok (.getfield 41, 3) := by decide +kernel
theorem dX7_told_87 : decode cX7_told 87 = .ok (.iload_n 1, 1) := by decide +kernel
theorem dX7_told_88 : decode cX7_told 88 = .ok (.iload_n 3, 1) := by decide +kernel
theorem dX7_told_89 : decode cX7_told 89 = .ok (.invokevirtual 100, 3) := by decide +kernel
theorem dX7_told_92 : decode cX7_told 92 = .ok (.ireturn, 1) := by decide +kernel
theorem dX7_told_93 : decode cX7_told 93 = .ok (.iload_n 2, 1) := by decide +kernel
theorem dX7_told_94 : decode cX7_told 94 = .ok (.bipush 8, 2) := by decide +kernel
theorem dX7_told_96 : decode cX7_told 96 = .ok (.if_icmp .ne 15, 3) := by decide +kernel
theorem dX7_told_99 : decode cX7_told 99 = .ok (.aload_n 0, 1) := by decide +kernel
theorem dX7_told_100 : decode cX7_told 100 = .ok (.getfield 41, 3) := by decide +kernel
theorem dX7_told_103 : decode cX7_told 103 = .ok (.iload_n 1, 1) := by decide +kernel
theorem dX7_told_104 : decode cX7_told 104 = .ok (.iload_n 3, 1) := by decide +kernel
theorem dX7_told_105 : decode cX7_told 105 = .ok (.invokevirtual 103, 3) := by decide +kernel
theorem dX7_told_108 : decode cX7_told 108 = .ok (.goto 12, 3) := by decide +kernel
theorem dX7_told_111 : decode cX7_told 111 = .ok (.aload_n 0, 1) := by decide +kernel
theorem dX7_told_112 : decode cX7_told 112 = .ok (.getfield 41, 3) := by decide +kernel
theorem dX7_told_115 : decode cX7_told 115 = .ok (.iload_n 1, 1) := by decide +kernel
theorem dX7_told_116 : decode cX7_told 116 = .ok (.iload_n 3, 1) := by decide +kernel
theorem dX7_told_117 : decode cX7_told 117 = .ok (.invokevirtual 106, 3) := by decide +kernel
theorem dX7_told_120 : decode cX7_told 120 = .ok (.ireturn, 1) := by decide +kernel
theorem dX7_iron_0 : decode cX7_iron 0 = .ok (.aload_n 0, 1) := by decide +kernel
theorem dX7_iron_1 : decode cX7_iron 1 = .ok (.getfield 10, 3) := by decide +kernel
theorem dX7_iron_4 : decode cX7_iron 4 = .ok (.iload_n 1, 1) := by decide +kernel
theorem dX7_iron_5 : decode cX7_iron 5 = .ok (.invokevirtual 109, 3) := by decide +kernel
theorem dX7_iron_8 : decode cX7_iron 8 = .ok (.ifCond .ne 6, 3) := by decide +kernel
theorem dX7_iron_11 : decode cX7_iron 11 = .ok (.bipush (-2), 2) := by decide +kernel
theorem dX7_iron_13 : decode cX7_iron 13 = .ok (.ireturn, 1) := by decide +kernel
theorem dX7_iron_14 : decode cX7_iron 14 = .ok (.aload_n 0, 1) := by decide +kernel
theorem dX7_iron_15 : decode cX7_iron 15 = .ok (.getfield 41, 3) := by decide +kernel
theorem dX7_iron_18 : decode cX7_iron 18 = .ok (.aload_n 0, 1) := by decide +kernel
theorem dX7_iron_19 : decode cX7_iron 19 = .ok (.getfield 10, 3) := by decide +kernel
theorem dX7_iron_22 : decode cX7_iron 22 = .ok (.iconst 1, 1) := by decide +kernel
theorem dX7_iron_23 : decode cX7_iron 23 = .ok (.iload_n 1, 1) := by decide +kernel
theorem dX7_iron_24 : decode cX7_iron 24 = .ok (.ishl, 1) := by decide +kernel
theorem dX7_iron_25 : decode cX7_iron 25 = .ok (.invokevirtual 113, 3) := by decide +kernel
theorem dX7_iron_28 : decode cX7_iron 28 = .ok (.aload_n 0, 1) := by decide +kernel
theorem dX7_iron_29 : decode cX7_iron 29 = .ok (.getfield 41, 3) := by decide +kernel
theorem dX7_iron_32 : decode cX7_iron 32 = .ok (.aload_n 0, 1) := by decide +kernel
theorem dX7_iron_33 : decode cX7_iron 33 = .ok (.getfield 10, 3) := by decide +kernel
theorem dX7_iron_36 : decode cX7_iron 36 = .ok (.invokevirtual 117, 3) := by decide +kernel
theorem dX7_iron_39 : decode cX7_iron 39 = .ok (.aload_n 0, 1) := by decide +kernel
theorem dX7_iron_40 : decode cX7_iron 40 = .ok (.getfield 41, 3) := by decide +kernel
theorem dX7_iron_43 : decode cX7_iron 43 = .ok (.invokevirtual 120, 3) := by decide +kernel
theorem dX7_iron_46 : decode cX7_iron 46 = .ok (.iconst 0, 1) := by decide +kernel
theorem dX7_iron_47 : decode cX7_iron 47 = .ok (.aload_n 0, 1) := by decide +kernel
theorem dX7_iron_48 : decode cX7_iron 48 = .ok (.getfield 10, 3) := by decide +kernel
theorem dX7_iron_51 : decode cX7_iron 51 = .ok (.getfield 97, 3) := by decide +kernel
theorem dX7_iron_54 : decode cX7_iron 54 = .ok (.iconst 0, 1) := by decide +kernel
theorem dX7_iron_55 : decode cX7_iron 55 = .ok (.aload_n 0, 1) := by decide +kernel
theorem dX7_iron_56 : decode cX7_iron 56 = .ok (.getfield 10, 3) := by decide +kernel
theorem dX7_iron_59 : decode cX7_iron 59 = .ok (.getfield 82, 3) := by decide +kernel
theorem dX7_iron_62 : decode cX7_iron 62 = .ok (.invokestatic 124, 3) := by decide +kernel
theorem dX7_iron_65 : decode cX7_iron 65 = .ok (.aload_n 0, 1) := by decide +kernel
theorem dX7_iron_66 : decode cX7_iron 66 = .ok (.getfield 10, 3) := by decide +kernel
theorem dX7_iron_69 : decode cX7_iron 69 = .ok (.getfield 97, 3) := by decide +kernel
theorem dX7_iron_72 : decode cX7_iron 72 = .ok (.iload_n 1, 1) := by decide +kernel
theorem dX7_iron_73 : decode cX7_iron 73 = .ok (.iaload, 1) := by decide +kernel
theorem dX7_iron_74 : decode cX7_iron 74 = .ok (.ireturn, 1) := by decide +kernel
theorem dX7_feed_0 : decode cX7_feed 0 = .ok (.iload_n 1, 1) := by decide +kernel
theorem dX7_feed_1 : decode cX7_feed 1 = .ok (.ifCond .lt 10, 3) := by decide +kernel
theorem dX7_feed_4 : decode cX7_feed 4 = .ok (.iload_n 1, 1) := by decide +kernel
theorem dX7_feed_5 : decode cX7_feed 5 = .ok (.sipush 255, 3) := by decide +kernel
theorem dX7_feed_8 : decode cX7_feed 8 = .ok (.if_icmp .le 6, 3) := by decide +kernel
theorem dX7_feed_11 : decode cX7_feed 11 = .ok (.bipush (-2), 2) := by decide +kernel
theorem dX7_feed_13 : decode cX7_feed 13 = .ok (.ireturn, 1) := by decide +kernel
theorem dX7_feed_14 : decode cX7_feed 14 = .ok (.aload_n 0, 1) := by decide +kernel
theorem dX7_feed_15 : decode cX7_feed 15 = .ok (.getfield 32, 3) := by decide +kernel
theorem dX7_feed_18 : decode cX7_feed 18 = .ok (.iload_n 1, 1) := by decide +kernel
theorem dX7_feed_19 : decode cX7_feed 19 = .ok (.invokevirtual 130, 3) := by decide +kernel
theorem dX7_feed_22 : decode cX7_feed 22 = .ok (.ifCond .eq 13, 3) := by decide +kernel
theorem dX7_feed_25 : decode cX7_feed 25 = .ok (.aload_n 0, 1) := by decide +kernel
theorem dX7_feed_26 : decode cX7_feed 26 = .ok (.getfield 32, 3) := by decide +kernel
theorem dX7_feed_29 : decode cX7_feed 29 = .ok (.getfield 133, 3) := by decide +kernel
theorem dX7_feed_32 : decode cX7_feed 32 = .ok (.goto 5, 3) := by decide +kernel
theorem dX7_feed_35 : decode cX7_feed 35 = .ok (.bipush (-4), 2) := by decide +kernel
theorem dX7_feed_37 : decode cX7_feed 37 = .ok (.ireturn, 1) := by decide +kernel
theorem dX7_text_0 : decode cX7_text 0 = .ok (.aload_n 0, 1) := by decide +kernel
theorem dX7_text_1 : decode cX7_text 1 = .ok (.getfield 25, 3) := by decide +kernel
theorem dX7_text_4 : decode cX7_text 4 = .ok (.getfield 136, 3) := by decide +kernel
theorem dX7_text_7 : decode cX7_text 7 = .ok (.bipush 6, 2) := by decide +kernel
theorem dX7_text_9 : decode cX7_text 9 = .ok (.if_icmp .lt 6, 3) := by decide +kernel
theorem dX7_text_12 : decode cX7_text 12 = .ok (.bipush (-4), 2) := by decide +kernel
theorem dX7_text_14 : decode cX7_text 14 = .ok (.ireturn, 1) := by decide +kernel
theorem dX7_text_15 : decode cX7_text 15 = .ok (.aload_n 0, 1) := by decide +kernel
theorem dX7_text_16 : decode cX7_text 16 = .ok (.getfield 32, 3) := by decide +kernel
theorem dX7_text_19 : decode cX7_text 19 = .ok (.aload_n 0, 1) := by decide +kernel
theorem dX7_text_20 : decode cX7_text 20 = .ok (.getfield 25, 3) := by decide +kernel
theorem dX7_text_23 : decode cX7_text 23 = .ok (.getfield 137, 3) := by decide +kernel
theorem dX7_text_26 : decode cX7_text 26 = .ok (.aload_n 0, 1) := by decide +kernel
theorem dX7_text_27 : decode cX7_text 27 = .ok (.getfield 25, 3) := by decide +kernel
theorem dX7_text_30 : decode cX7_text 30 = .ok (.getfield 136, 3) := by decide +kernel
theorem dX7_text_33 : decode cX7_text 33 = .ok (.aaload, 1) := by decide +kernel
theorem dX7_text_34 : decode cX7_text 34 = .ok (.aload_n 0, 1) := by decide +kernel
theorem dX7_text_35 : decode cX7_text 35 = .ok (.getfield 25, 3) := by decide +kernel
theorem dX7_text_38 : decode cX7_text 38 = .ok (.getfield 141, 3) := by decide +kernel
theorem dX7_text_41 : decode cX7_text 41 = .ok (.aload_n 0, 1) := by decide +kernel
theorem dX7_text_42 : decode cX7_text 42 = .ok (.getfield 25, 3) := by decide +kernel
theorem dX7_text_45 : decode cX7_text 45 = .ok (.getfield 136, 3) := by decide +kernel
theorem dX7_text_48 : decode cX7_text 48 = .ok (.aaload, 1) := by decide +kernel
theorem dX7_text_49 : decode cX7_text 49 = .ok (.invokevirtual 144, 3) := by decide +kernel
theorem dX7_text_52 : decode cX7_text 52 = .ok (.istore_n 1, 1) := by decide +kernel
theorem dX7_text_53 : decode cX7_text 53 = .ok (.aload_n 0, 1) := by decide +kernel
theorem dX7_text_54 : decode cX7_text 54 = .ok (.getfield 32, 3) := by decide +kernel
theorem dX7_text_57 : decode cX7_text 57 = .ok (.iconst 0, 1) := by decide +kernel
theorem dX7_text_58 : decode cX7_text 58 = .ok (.putfield 133, 3) := by decide +kernel
theorem dX7_text_61 : decode cX7_text 61 = .ok (.iload_n 1, 1) := by decide +kernel
theorem dX7_text_62 : decode cX7_text 62 = .ok (.iconst (-1), 1) := by decide +kernel
theorem dX7_text_63 : decode cX7_text 63 = .ok (.if_icmp .eq 8, 3) := by decide +kernel
theorem dX7_text_66 : decode cX7_text 66 = .ok (.bipush (-100), 2) := by decide +kernel
theorem dX7_text_68 : decode cX7_text 68 = .ok (.iload_n 1, 1) := by decide +kernel
theorem dX7_text_69 : decode cX7_text 69 = .ok (.isub, 1) := by decide +kernel
theorem dX7_text_70 : decode cX7_text 70 = .ok (.ireturn, 1) := by decide +kernel
theorem dX7_text_71 : decode cX7_text 71 = .ok (.aload_n 0, 1) := by decide +kernel
theorem dX7_text_72 : decode cX7_text 72 = .ok (.getfield 25, 3) := by decide +kernel
theorem dX7_text_75 : decode cX7_text 75 = .ok (.dup, 1) := by decide +kernel
theorem dX7_text_76 : decode cX7_text 76 = .ok (.getfield 136, 3) := by decide +kernel
theorem dX7_text_79 : decode cX7_text 79 = .ok (.iconst 1, 1) := by decide +kernel
theorem dX7_text_80 : decode cX7_text 80 = .ok (.iadd, 1) := by decide +kernel
theorem dX7_text_81 : decode cX7_text 81 = .ok (.putfield 136, 3) := by decide +kernel
theorem dX7_text_84 : decode cX7_text 84 = .ok (.aload_n 0, 1) := by decide +kernel
theorem dX7_text_85 : decode cX7_text 85 = .ok (.getfield 25, 3) := by decide +kernel
theorem dX7_text_88 : decode cX7_text 88 = .ok (.getfield 136, 3) := by decide +kernel
theorem dX7_text_91 : decode cX7_text 91 = .ok (.iconst 1, 1) := by decide +kernel
theorem dX7_text_92 : decode cX7_text 92 = .ok (.isub, 1) := by decide +kernel
theorem dX7_text_93 : decode cX7_text 93 = .ok (.ireturn, 1) := by decide +kernel
theorem dX7_force_0 : decode cX7_force 0 = .ok (.iload_n 1, 1) := by decide +kernel
theorem dX7_force_1 : decode cX7_force 1 = .ok (.ifCond .lt 14, 3) := by decide +kernel
theorem dX7_force_4 : decode cX7_force 4 = .ok (.iload_n 1, 1) := by decide +kernel
theorem dX7_force_5 : decode cX7_force 5 = .ok (.aload_n 0, 1) := by decide +kernel
theorem dX7_force_6 : decode cX7_force 6 = .ok (.getfield 25, 3) := by decide +kernel
theorem dX7_force_9 : decode cX7_force 9 = .ok (.getfield 136, 3) := by decide +kernel
theorem dX7_force_12 : decode cX7_force 12 = .ok (.if_icmp .lt 6, 3) := by decide +kernel
theorem dX7_force_15 : decode cX7_force 15 = .ok (.bipush (-2), 2) := by decide +kernel
theorem dX7_force_17 : decode cX7_force 17 = .ok (.ireturn, 1) := by decide +kernel
theorem dX7_force_18 : decode cX7_force 18 = .ok (.aload_n 0, 1) := by decide +kernel
theorem dX7_force_19 : decode cX7_force 19 = .ok (.getfield 10, 3) := by decide +kernel
theorem dX7_force_22 : decode cX7_force 22 = .ok (.getfield 148, 3) := by decide +kernel
theorem dX7_force_25 : decode cX7_force 25 = .ok (.istore_n 2, 1) := by decide +kernel
theorem dX7_force_26 : decode cX7_force 26 = .ok (.aload_n 0, 1) := by decide +kernel
theorem dX7_force_27 : decode cX7_force 27 = .ok (.getfield 10, 3) := by decide +kernel
theorem dX7_force_30 : decode cX7_force 30 = .ok (.iload_n 1, 1) := by decide +kernel
theorem dX7_force_31 : decode cX7_force 31 = .ok (.putfield 148, 3) := by decide +kernel
theorem dX7_force_34 : decode cX7_force 34 = .ok (.iload_n 2, 1) := by decide +kernel
theorem dX7_force_35 : decode cX7_force 35 = .ok (.ireturn, 1) := by decide +kernel
theorem dX7_plain_0 : decode cX7_plain 0 = .ok (.aload_n 0, 1) := by decide +kernel
theorem dX7_plain_1 : decode cX7_plain 1 = .ok (.iload_n 1, 1) := by decide +kernel
theorem dX7_plain_2 : decode cX7_plain 2 = .ok (.invokevirtual 151, 3) := by decide +kernel
theorem dX7_plain_5 : decode cX7_plain 5 = .ok (.ifCond .ne 6, 3) := by decide +kernel
theorem dX7_plain_8 : decode cX7_plain 8 = .ok (.bipush (-2), 2) := by decide +kernel
theorem dX7_plain_10 : decode cX7_plain 10 = .ok (.ireturn, 1) := by decide +kernel
theorem dX7_plain_11 : decode cX7_plain 11 = .ok (.aload_n 0, 1) := by decide +kernel
theorem dX7_plain_12 : decode cX7_plain 12 = .ok (.getfield 41, 3) := by decide +kernel
theorem dX7_plain_15 : decode cX7_plain 15 = .ok (.aload_n 0, 1) := by decide +kernel
theorem dX7_plain_16 : decode cX7_plain 16 = .ok (.getfield 10, 3) := by decide +kernel
theorem dX7_plain_19 : decode cX7_plain 19 = .ok (.bipush 127, 2) := by decide +kernel
theorem dX7_plain_21 : decode cX7_plain 21 = .ok (.invokevirtual 113, 3) := by decide +kernel
theorem dX7_plain_24 : decode cX7_plain 24 = .ok (.aload_n 0, 1) := by decide +kernel
theorem dX7_plain_25 : decode cX7_plain 25 = .ok (.getfield 41, 3) := by decide +kernel
theorem dX7_plain_28 : decode cX7_plain 28 = .ok (.aload_n 0, 1) := by decide +kernel
theorem dX7_plain_29 : decode cX7_plain 29 = .ok (.getfield 10, 3) := by decide +kernel
theorem dX7_plain_32 : decode cX7_plain 32 = .ok (.invokevirtual 117, 3) := by decide +kernel
theorem dX7_plain_35 : decode cX7_plain 35 = .ok (.aload_n 0, 1) := by decide +kernel
theorem dX7_plain_36 : decode cX7_plain 36 = .ok (.getfield 41, 3) := by decide +kernel
theorem dX7_plain_39 : decode cX7_plain 39 = .ok (.aload_n 0, 1) := by decide +kernel
theorem dX7_plain_40 : decode cX7_plain 40 = .ok (.getfield 10, 3) := by decide +kernel
theorem dX7_plain_43 : decode cX7_plain 43 = .ok (.iload_n 1, 1) := by decide +kernel
theorem dX7_plain_44 : decode cX7_plain 44 = .ok (.invokevirtual 154, 3) := by decide +kernel
theorem dX7_plain_47 : decode cX7_plain 47 = .ok (.ireturn, 1) := by decide +kernel
theorem dX7_order_0 : decode cX7_order 0 = .ok (.aload_n 0, 1) := by decide +kernel
theorem dX7_order_1 : decode cX7_order 1 = .ok (.getfield 57, 3) := by decide +kernel
theorem dX7_order_4 : decode cX7_order 4 = .ok (.iload_n 1, 1) := by decide +kernel
theorem dX7_order_5 : decode cX7_order 5 = .ok (.invokevirtual 158, 3) := by decide +kernel
theorem dX7_order_8 : decode cX7_order 8 = .ok (.ifCond .eq 11, 3) := by decide +kernel
theorem dX7_order_11 : decode cX7_order 11 = .ok (.aload_n 0, 1) := by decide +kernel
theorem dX7_order_12 : decode cX7_order 12 = .ok (.iload_n 2, 1) := by decide +kernel
theorem dX7_order_13 : decode cX7_order 13 = .ok (.invokevirtual 151, 3) := by decide +kernel
theorem dX7_order_16 : decode cX7_order 16 = .ok (.ifCond .ne 6, 3) := by decide +kernel
theorem dX7_order_19 : decode cX7_order 19 = .ok (.bipush (-2), 2) := by decide +kernel
theorem dX7_order_21 : decode cX7_order 21 = .ok (.ireturn, 1) := by decide +kernel
theorem dX7_order_22 : decode cX7_order 22 = .ok (.aload_n 0, 1) := by decide +kernel
theorem dX7_order_23 : decode cX7_order 23 = .ok (.getfield 57, 3) := by decide +kernel
theorem dX7_order_26 : decode cX7_order 26 = .ok (.iload_n 1, 1) := by decide +kernel
theorem dX7_order_27 : decode cX7_order 27 = .ok (.invokevirtual 159, 3) := by decide +kernel
theorem dX7_order_30 : decode cX7_order 30 = .ok (.ifCond .eq 6, 3) := by decide +kernel
theorem dX7_order_33 : decode cX7_order 33 = .ok (.bipush (-11), 2) := by decide +kernel
theorem dX7_order_35 : decode cX7_order 35 = .ok (.ireturn, 1) := by decide +kernel
theorem dX7_order_36 : decode cX7_order 36 = .ok (.aload_n 0, 1) := by decide +kernel
theorem dX7_order_37 : decode cX7_order 37 = .ok (.iload_n 1, 1) := by decide +kernel
theorem dX7_order_38 : decode cX7_order 38 = .ok (.invokevirtual 162, 3) := by decide +kernel
theorem dX7_order_41 : decode cX7_order 41 = .ok (.ifCond .ne 6, 3) := by decide +kernel
theorem dX7_order_44 : decode cX7_order 44 = .ok (.bipush (-2), 2) := by decide +kernel
theorem dX7_order_46 : decode cX7_order 46 = .ok (.ireturn, 1) := by decide +kernel
theorem dX7_order_47 : decode cX7_order 47 = .ok (.aload_n 0, 1) := by decide +kernel
theorem dX7_order_48 : decode cX7_order 48 = .ok (.getfield 41, 3) := by decide +kernel
theorem dX7_order_51 : decode cX7_order 51 = .ok (.aload_n 0, 1) := by decide +kernel
theorem dX7_order_52 : decode cX7_order 52 = .ok (.getfield 10, 3) := by decide +kernel
theorem dX7_order_55 : decode cX7_order 55 = .ok (.invokevirtual 117, 3) := by decide +kernel
theorem dX7_order_58 : decode cX7_order 58 = .ok (.aload_n 0, 1) := by decide +kernel
theorem dX7_order_59 : decode cX7_order 59 = .ok (.getfield 41, 3) := by decide +kernel
theorem dX7_order_62 : decode cX7_order 62 = .ok (.aload_n 0, 1) := by decide +kernel
theorem dX7_order_63 : decode cX7_order 63 = .ok (.getfield 10, 3) := by decide +kernel
theorem dX7_order_66 : decode cX7_order 66 = .ok (.iload_n 2, 1) := by decide +kernel
theorem dX7_order_67 : decode cX7_order 67 = .ok (.invokevirtual 154, 3) := by decide +kernel
theorem dX7_order_70 : decode cX7_order 70 = .ok (.ireturn, 1) := by decide +kernel
theorem dX7_best_0 : decode cX7_best 0 = .ok (.iload_n 1, 1) := by decide +kernel
theorem dX7_best_1 : decode cX7_best 1 = .ok (.ifCond .lt 8, 3) := by decide +kernel
theorem dX7_best_4 : decode cX7_best 4 = .ok (.iload_n 1, 1) := by decide +kernel
theorem dX7_best_5 : decode cX7_best 5 = .ok (.iconst 1, 1) := by decide +kernel
theorem dX7_best_6 : decode cX7_best 6 = .ok (.if_icmp .le 6, 3) := by decide +kernel
theorem dX7_best_9 : decode cX7_best 9 = .ok (.bipush (-2), 2) := by decide +kernel
theorem dX7_best_11 : decode cX7_best 11 = .ok (.ireturn, 1) := by decide +kernel
theorem dX7_best_12 : decode cX7_best 12 = .ok (.aload_n 0, 1) := by decide +kernel
theorem dX7_best_13 : decode cX7_best 13 = .ok (.getfield 50, 3) := by decide +kernel
theorem dX7_best_16 : decode cX7_best 16 = .ok (.aload_n 0, 1) := by decide +kernel
theorem dX7_best_17 : decode cX7_best 17 = .ok (.getfield 10, 3) := by decide +kernel
theorem dX7_best_20 : decode cX7_best 20 = .ok (.invokevirtual 165, 3) := by decide +kernel
theorem dX7_best_23 : decode cX7_best 23 = .ok (.iload_n 1, 1) := by decide +kernel
theorem dX7_best_24 : decode cX7_best 24 = .ok (.ifCond .ne 13, 3) := by decide +kernel
theorem dX7_best_27 : decode cX7_best 27 = .ok (.aload_n 0, 1) := by decide +kernel
theorem dX7_best_28 : decode cX7_best 28 = .ok (.getfield 50, 3) := by decide +kernel
theorem dX7_best_31 : decode cX7_best 31 = .ok (.getfield 168, 3) := by decide +kernel
theorem dX7_best_34 : decode cX7_best 34 = .ok (.goto 10, 3) := by decide +kernel
theorem dX7_best_37 : decode cX7_best 37 = .ok (.aload_n 0, 1) := by decide +kernel
theorem dX7_best_38 : decode cX7_best 38 = .ok (.getfield 50, 3) := by decide +kernel
theorem dX7_best_41 : decode cX7_best 41 = .ok (.getfield 171, 3) := by decide +kernel
theorem dX7_best_44 : decode cX7_best 44 = .ok (.ireturn, 1) := by decide +kernel
theorem dX7_worst_0 : decode cX7_worst 0 = .ok (.iload_n 1, 1) := by decide +kernel
theorem dX7_worst_1 : decode cX7_worst 1 = .ok (.ifCond .lt 8, 3) := by decide +kernel
theorem dX7_worst_4 : decode cX7_worst 4 = .ok (.iload_n 1, 1) := by decide +kernel
theorem dX7_worst_5 : decode cX7_worst 5 = .ok (.iconst 1, 1) := by decide +kernel
theorem dX7_worst_6 : decode cX7_worst 6 = .ok (.if_icmp .le 6, 3) := by decide +kernel
theorem dX7_worst_9 : decode cX7_worst 9 = .ok (.bipush (-2), 2) := by decide +kernel
theorem dX7_worst_11 : decode cX7_worst 11 = .ok (.ireturn, 1) := by decide +kernel
theorem dX7_worst_12 : decode cX7_worst 12 = .ok (.aload_n 0, 1) := by decide +kernel
theorem dX7_worst_13 : decode cX7_worst 13 = .ok (.getfield 41, 3) := by decide +kernel
theorem dX7_worst_16 : decode cX7_worst 16 = .ok (.aload_n 0, 1) := by decide +kernel
theorem dX7_worst_17 : decode cX7_worst 17 = .ok (.getfield 10, 3) := by decide +kernel
theorem dX7_worst_20 : decode cX7_worst 20 = .ok (.invokevirtual 174, 3) := by decide +kernel
theorem dX7_worst_23 : decode cX7_worst 23 = .ok (.aload_n 0, 1) := by decide +kernel
theorem dX7_worst_24 : decode cX7_worst 24 = .ok (.getfield 41, 3) := by decide +kernel
theorem dX7_worst_27 : decode cX7_worst 27 = .ok (.aload_n 0, 1) := by decide +kernel
theorem dX7_worst_28 : decode cX7_worst 28 = .ok (.getfield 10, 3) := by decide +kernel
theorem dX7_worst_31 : decode cX7_worst 31 = .ok (.invokevirtual 117, 3) := by decide +kernel
theorem dX7_worst_34 : decode cX7_worst 34 = .ok (.iload_n 1, 1) := by decide +kernel
theorem dX7_worst_35 : decode cX7_worst 35 = .ok (.ifCond .ne 17, 3) := by decide +kernel
theorem dX7_worst_38 : decode cX7_worst 38 = .ok (.aload_n 0, 1) := by decide +kernel
theorem dX7_worst_39 : decode cX7_worst 39 = .ok (.getfield 41, 3) := by decide +kernel
theorem dX7_worst_42 : decode cX7_worst 42 = .ok (.aload_n 0, 1) := by decide +kernel
theorem dX7_worst_43 : decode cX7_worst 43 = .ok (.getfield 10, 3) := by decide +kernel
theorem dX7_worst_46 : decode cX7_worst 46 = .ok (.invokevirtual 177, 3) := by decide +kernel
theorem dX7_worst_49 : decode cX7_worst 49 = .ok (.goto 10, 3) := by decide +kernel
theorem dX7_worst_52 : decode cX7_worst 52 = .ok (.aload_n 0, 1) := by decide +kernel
theorem dX7_worst_53 : decode cX7_worst 53 = .ok (.getfield 41, 3) := by decide +kernel
theorem dX7_worst_56 : decode cX7_worst 56 = .ok (.invokevirtual 181, 3) := by decide +kernel
theorem dX7_worst_59 : decode cX7_worst 59 = .ok (.ireturn, 1) := by decide +kernel
theorem dX7_change_0 : decode cX7_change 0 = .ok (.iload_n 1, 1) := by decide +kernel
theorem dX7_change_1 : decode cX7_change 1 = .ok (.ifCond .lt 8, 3) := by decide +kernel
theorem dX7_change_4 : decode cX7_change 4 = .ok (.iload_n 1, 1) := by decide +kernel
theorem dX7_change_5 : decode cX7_change 5 = .ok (.iconst 1, 1) := by decide +kernel
theorem dX7_change_6 : decode cX7_change 6 = .ok (.if_icmp .le 6, 3) := by decide +kernel
theorem dX7_change_9 : decode cX7_change 9 = .ok (.bipush (-2), 2) := by decide +kernel
theorem dX7_change_11 : decode cX7_change 11 = .ok (.ireturn, 1) := by decide +kernel
theorem dX7_change_12 : decode cX7_change 12 = .ok (.aload_n 0, 1) := by decide +kernel
theorem dX7_change_13 : decode cX7_change 13 = .ok (.getfield 50, 3) := by decide +kernel
theorem dX7_change_16 : decode cX7_change 16 = .ok (.aload_n 0, 1) := by decide +kernel
theorem dX7_change_17 : decode cX7_change 17 = .ok (.getfield 10, 3) := by decide +kernel
theorem dX7_change_20 : decode cX7_change 20 = .ok (.invokevirtual 185, 3) := by decide +kernel
theorem dX7_change_23 : decode cX7_change 23 = .ok (.iload_n 1, 1) := by decide +kernel
theorem dX7_change_24 : decode cX7_change 24 = .ok (.ifCond .ne 13, 3) := by decide +kernel
theorem dX7_change_27 : decode cX7_change 27 = .ok (.aload_n 0, 1) := by decide +kernel
theorem dX7_change_28 : decode cX7_change 28 = .ok (.getfield 50, 3) := by decide +kernel
theorem dX7_change_31 : decode cX7_change 31 = .ok (.getfield 171, 3) := by decide +kernel
theorem dX7_change_34 : decode cX7_change 34 = .ok (.goto 10, 3) := by decide +kernel
theorem dX7_change_37 : decode cX7_change 37 = .ok (.aload_n 0, 1) := by decide +kernel
theorem dX7_change_38 : decode cX7_change 38 = .ok (.getfield 50, 3) := by decide +kernel
theorem dX7_change_41 : decode cX7_change 41 = .ok (.getfield 168, 3) := by decide +kernel
theorem dX7_change_44 : decode cX7_change 44 = .ok (.ireturn, 1) := by decide +kernel
theorem dX7_leave_0 : decode cX7_leave 0 = .ok (.iload_n 1, 1) := by decide +kernel
theorem dX7_leave_1 : decode cX7_leave 1 = .ok (.ifCond .lt 8, 3) := by decide +kernel
theorem dX7_leave_4 : decode cX7_leave 4 = .ok (.iload_n 1, 1) := by decide +kernel
theorem dX7_leave_5 : decode cX7_leave 5 = .ok (.iconst 1, 1) := by decide +kernel
theorem dX7_leave_6 : decode cX7_leave 6 = .ok (.if_icmp .le 6, 3) := by decide +kernel
theorem dX7_leave_9 : decode cX7_leave 9 = .ok (.bipush (-2), 2) := by decide +kernel
theorem dX7_leave_11 : decode cX7_leave 11 = .ok (.ireturn, 1) := by decide +kernel
theorem dX7_leave_12 : decode cX7_leave 12 = .ok (.aload_n 0, 1) := by decide +kernel
theorem dX7_leave_13 : decode cX7_leave 13 = .ok (.getfield 50, 3) := by decide +kernel
theorem dX7_leave_16 : decode cX7_leave 16 = .ok (.aload_n 0, 1) := by decide +kernel
theorem dX7_leave_17 : decode cX7_leave 17 = .ok (.getfield 10, 3) := by decide +kernel
theorem dX7_leave_20 : decode cX7_leave 20 = .ok (.invokevirtual 188, 3) := by decide +kernel
theorem dX7_leave_23 : decode cX7_leave 23 = .ok (.iload_n 1, 1) := by decide +kernel
theorem dX7_leave_24 : decode cX7_leave 24 = .ok (.ifCond .ne 13, 3) := by decide +kernel
theorem dX7_leave_27 : decode cX7_leave 27 = .ok (.aload_n 0, 1) := by decide +kernel
theorem dX7_leave_28 : decode cX7_leave 28 = .ok (.getfield 50, 3) := by decide +kernel
theorem dX7_leave_31 : decode cX7_leave 31 = .ok (.getfield 171, 3) := by decide +kernel
theorem dX7_leave_34 : decode cX7_leave 34 = .ok (.goto 10, 3) := by decide +kernel
theorem dX7_leave_37 : decode cX7_leave 37 = .ok (.aload_n 0, 1) := by decide +kernel
theorem dX7_leave_38 : decode cX7_leave 38 = .ok (.getfield 50, 3) := by decide +kernel
theorem dX7_leave_41 : decode cX7_leave 41 = .ok (.getfield 168, 3) := by decide +kernel
theorem dX7_leave_44 : decode cX7_leave 44 = .ok (.ireturn, 1) := by decide +kernel
theorem dX7_spray_0 : decode cX7_spray 0 = .ok (.iload_n 1, 1) := by decide +kernel
theorem dX7_spray_1 : decode cX7_spray 1 = .ok (.ifCond .lt 8, 3) := by decide +kernel
theorem dX7_spray_4 : decode cX7_spray 4 = .ok (.iload_n 1, 1) := by decide +kernel
theorem dX7_spray_5 : decode cX7_spray 5 = .ok (.iconst 1, 1) := by decide +kernel
theorem dX7_spray_6 : decode cX7_spray 6 = .ok (.if_icmp .le 6, 3) := by decide +kernel
theorem dX7_spray_9 : decode cX7_spray 9 = .ok (.bipush (-2), 2) := by decide +kernel
theorem dX7_spray_11 : decode cX7_spray 11 = .ok (.ireturn, 1) := by decide +kernel
theorem dX7_spray_12 : decode cX7_spray 12 = .ok (.aload_n 0, 1) := by decide +kernel
theorem dX7_spray_13 : decode cX7_spray 13 = .ok (.getfield 50, 3) := by decide +kernel
theorem dX7_spray_16 : decode cX7_spray 16 = .ok (.aload_n 0, 1) := by decide +kernel
theorem dX7_spray_17 : decode cX7_spray 17 = .ok (.getfield 10, 3) := by decide +kernel
theorem dX7_spray_20 : decode cX7_spray 20 = .ok (.invokevirtual 191, 3) := by decide +kernel
theorem dX7_spray_23 : decode cX7_spray 23 = .ok (.iload_n 1, 1) := by decide +kernel
theorem dX7_spray_24 : decode cX7_spray 24 = .ok (.ifCond .ne 13, 3) := by decide +kernel
theorem dX7_spray_27 : decode cX7_spray 27 = .ok (.aload_n 0, 1) := by decide +kernel
theorem dX7_spray_28 : decode cX7_spray 28 = .ok (.getfield 50, 3) := by decide +kernel
theorem dX7_spray_31 : decode cX7_spray 31 = .ok (.getfield 171, 3) := by decide +kernel
theorem dX7_spray_34 : decode cX7_spray 34 = .ok (.goto 10, 3) := by decide +kernel
theorem dX7_spray_37 : decode cX7_spray 37 = .ok (.aload_n 0, 1) := by decide +kernel
theorem dX7_spray_38 : decode cX7_spray 38 = .ok (.getfield 50, 3) := by decide +kernel
theorem dX7_spray_41 : decode cX7_spray 41 = .ok (.getfield 168, 3) := by decide +kernel
theorem dX7_spray_44 : decode cX7_spray 44 = .ok (.ireturn, 1) := by decide +kernel
theorem dX7_how_0 : decode cX7_how 0 = .ok (.iload_n 1, 1) := by decide +kernel
theorem dX7_how_1 : decode cX7_how 1 = .ok (.ifCond .lt 8, 3) := by decide +kernel
theorem dX7_how_4 : decode cX7_how 4 = .ok (.iload_n 1, 1) := by decide +kernel
theorem dX7_how_5 : decode cX7_how 5 = .ok (.iconst 3, 1) := by decide +kernel
theorem dX7_how_6 : decode cX7_how 6 = .ok (.if_icmp .le 6, 3) := by decide +kernel
theorem dX7_how_9 : decode cX7_how 9 = .ok (.bipush (-2), 2) := by decide +kernel
theorem dX7_how_11 : decode cX7_how 11 = .ok (.ireturn, 1) := by decide +kernel
theorem dX7_how_12 : decode cX7_how 12 = .ok (.aload_n 0, 1) := by decide +kernel
theorem dX7_how_13 : decode cX7_how 13 = .ok (.getfield 50, 3) := by decide +kernel
theorem dX7_how_16 : decode cX7_how 16 = .ok (.aload_n 0, 1) := by decide +kernel
theorem dX7_how_17 : decode cX7_how 17 = .ok (.getfield 10, 3) := by decide +kernel
theorem dX7_how_20 : decode cX7_how 20 = .ok (.iload_n 1, 1) := by decide +kernel
theorem dX7_how_21 : decode cX7_how 21 = .ok (.iconst 2, 1) := by decide +kernel
theorem dX7_how_22 : decode cX7_how 22 = .ok (.if_icmp .ge 7, 3) := by decide +kernel
theorem dX7_how_25 : decode cX7_how 25 = .ok (.iconst 1, 1) := by decide +kernel
theorem dX7_how_26 : decode cX7_how 26 = .ok (.goto 4, 3) := by decide +kernel
theorem dX7_how_29 : decode cX7_how 29 = .ok (.iconst 0, 1) := by decide +kernel
theorem dX7_how_30 : decode cX7_how 30 = .ok (.invokevirtual 194, 3) := by decide +kernel
theorem dX7_how_33 : decode cX7_how 33 = .ok (.iload_n 1, 1) := by decide +kernel
theorem dX7_how_34 : decode cX7_how 34 = .ok (.iconst 2, 1) := by decide +kernel
theorem dX7_how_35 : decode cX7_how 35 = .ok (.irem, 1) := by decide +kernel
theorem dX7_how_36 : decode cX7_how 36 = .ok (.ifCond .ne 13, 3) := by decide +kernel
theorem dX7_how_39 : decode cX7_how 39 = .ok (.aload_n 0, 1) := by decide +kernel
theorem dX7_how_40 : decode cX7_how 40 = .ok (.getfield 50, 3) := by decide +kernel
theorem dX7_how_43 : decode cX7_how 43 = .ok (.getfield 171, 3) := by decide +kernel
theorem dX7_how_46 : decode cX7_how 46 = .ok (.goto 10, 3) := by decide +kernel
theorem dX7_how_49 : decode cX7_how 49 = .ok (.aload_n 0, 1) := by decide +kernel
theorem dX7_how_50 : decode cX7_how 50 = .ok (.getfield 50, 3) := by decide +kernel
theorem dX7_how_53 : decode cX7_how 53 = .ok (.getfield 168, 3) := by decide +kernel
theorem dX7_how_56 : decode cX7_how 56 = .ok (.ireturn, 1) := by decide +kernel
theorem dX7_enough_0 : decode cX7_enough 0 = .ok (.iload_n 1, 1) := by decide +kernel
theorem dX7_enough_1 : decode cX7_enough 1 = .ok (.ifCond .lt 10, 3) := by decide +kernel
theorem dX7_enough_4 : decode cX7_enough 4 = .ok (.iload_n 1, 1) := by decide +kernel
theorem dX7_enough_5 : decode cX7_enough 5 = .ok (.sipush 9999, 3) := by decide +kernel
theorem dX7_enough_8 : decode cX7_enough 8 = .ok (.if_icmp .le 6, 3) := by decide +kernel
theorem dX7_enough_11 : decode cX7_enough 11 = .ok (.bipush (-2), 2) := by decide +kernel
theorem dX7_enough_13 : decode cX7_enough 13 = .ok (.ireturn, 1) := by decide +kernel
theorem dX7_enough_14 : decode cX7_enough 14 = .ok (.aload_n 0, 1) := by decide +kernel
theorem dX7_enough_15 : decode cX7_enough 15 = .ok (.getfield 50, 3) := by decide +kernel
theorem dX7_enough_18 : decode cX7_enough 18 = .ok (.aload_n 0, 1) := by decide +kernel
theorem dX7_enough_19 : decode cX7_enough 19 = .ok (.getfield 10, 3) := by decide +kernel
theorem dX7_enough_22 : decode cX7_enough 22 = .ok (.iload_n 1, 1) := by decide +kernel
theorem dX7_enough_23 : decode cX7_enough 23 = .ok (.invokevirtual 197, 3) := by decide +kernel
theorem dX7_enough_26 : decode cX7_enough 26 = .ok (.ireturn, 1) := by decide +kernel
theorem dX7_tells_0 : decode cX7_tells 0 = .ok (.aload_n 0, 1) := by decide +kernel
theorem dX7_tells_1 : decode cX7_tells 1 = .ok (.getfield 57, 3) := by decide +kernel
theorem dX7_tells_4 : decode cX7_tells 4 = .ok (.iload_n 1, 1) := by decide +kernel
theorem dX7_tells_5 : decode cX7_tells 5 = .ok (.invokevirtual 158, 3) := by decide +kernel
theorem dX7_tells_8 : decode cX7_tells 8 = .ok (.ifCond .eq 43, 3) := by decide +kernel
theorem dX7_tells_11 : decode cX7_tells 11 = .ok (.iload_n 2, 1) := by decide +kernel
theorem dX7_tells_12 : decode cX7_tells 12 = .ok (.ifCond .lt 39, 3) := by decide +kernel
theorem dX7_tells_15 : decode cX7_tells 15 = .ok (.iload_n 2, 1) := by decide +kernel
theorem dX7_tells_16 : decode cX7_tells 16 = .ok (.bipush 49, 2) := by decide +kernel
theorem dX7_tells_18 : decode cX7_tells 18 = .ok (.if_icmp .gt 33, 3) := by decide +kernel
theorem dX7_tells_21 : decode cX7_tells 21 = .ok (.iload_n 2, 1) := by decide +kernel
theorem dX7_tells_22 : decode cX7_tells 22 = .ok (.iconst 2, 1) := by decide +kernel
theorem dX7_tells_23 : decode cX7_tells 23 = .ok (.if_icmp .le 9, 3) := by decide +kernel
theorem dX7_tells_26 : decode cX7_tells 26 = .ok (.iload_n 2, 1) := by decide +kernel
theorem dX7_tells_27 : decode cX7_tells 27 = .ok (.bipush 10, 2) := by decide +kernel
theorem dX7_tells_29 : decode cX7_tells 29 = .ok (.if_icmp .lt 22, 3) := by decide +kernel
theorem dX7_tells_32 : decode cX7_tells 32 = .ok (.iload_n 2, 1) := by decide +kernel
theorem dX7_tells_33 : decode cX7_tells 33 = .ok (.iconst 2, 1) := by decide +kernel
theorem dX7_tells_34 : decode cX7_tells 34 = .ok (.if_icmp .le 20, 3) := by decide +kernel
theorem dX7_tells_37 : decode cX7_tells 37 = .ok (.aload_n 0, 1) := by decide +kernel
theorem dX7_tells_38 : decode cX7_tells 38 = .ok (.getfield 10, 3) := by decide +kernel
theorem dX7_tells_41 : decode cX7_tells 41 = .ok (.iload_n 2, 1) := by decide +kernel
theorem dX7_tells_42 : decode cX7_tells 42 = .ok (.bipush 10, 2) := by decide +kernel
theorem dX7_tells_44 : decode cX7_tells 44 = .ok (.irem, 1) := by decide +kernel
theorem dX7_tells_45 : decode cX7_tells 45 = .ok (.invokevirtual 109, 3) := by decide +kernel
theorem dX7_tells_48 : decode cX7_tells 48 = .ok (.ifCond .ne 6, 3) := by decide +kernel
theorem dX7_tells_51 : decode cX7_tells 51 = .ok (.bipush (-2), 2) := by decide +kernel
theorem dX7_tells_53 : decode cX7_tells 53 = .ok (.ireturn, 1) := by decide +kernel
theorem dX7_tells_54 : decode cX7_tells 54 = .ok (.aload_n 0, 1) := by decide +kernel
theorem dX7_tells_55 : decode cX7_tells 55 = .ok (.getfield 57, 3) := by decide +kernel
theorem dX7_tells_58 : decode cX7_tells 58 = .ok (.iload_n 1, 1) := by decide +kernel
theorem dX7_tells_59 : decode cX7_tells 59 = .ok (.invokevirtual 159, 3) := by decide +kernel
theorem dX7_tells_62 : decode cX7_tells 62 = .ok (.ifCond .eq 6, 3) := by decide +kernel
theorem dX7_tells_65 : decode cX7_tells 65 = .ok (.bipush (-11), 2) := by decide +kernel
theorem dX7_tells_67 : decode cX7_tells 67 = .ok (.ireturn, 1) := by decide +kernel
theorem dX7_tells_68 : decode cX7_tells 68 = .ok (.aload_n 0, 1) := by decide +kernel
theorem dX7_tells_69 : decode cX7_tells 69 = .ok (.getfield 57, 3) := by decide +kernel
theorem dX7_tells_72 : decode cX7_tells 72 = .ok (.getfield 200, 3) := by decide +kernel
theorem dX7_tells_75 : decode cX7_tells 75 = .ok (.iload_n 1, 1) := by decide +kernel
theorem dX7_tells_76 : decode cX7_tells 76 = .ok (.iaload, 1) := by decide +kernel
theorem dX7_tells_77 : decode cX7_tells 77 = .ok (.aload_n 0, 1) := by decide +kernel
theorem dX7_tells_78 : decode cX7_tells 78 = .ok (.getfield 10, 3) := by decide +kernel
theorem dX7_tells_81 : decode cX7_tells 81 = .ok (.getfield 82, 3) := by decide +kernel
theorem dX7_tells_84 : decode cX7_tells 84 = .ok (.if_icmp .eq 6, 3) := by decide +kernel
theorem dX7_tells_87 : decode cX7_tells 87 = .ok (.bipush (-2), 2) := by decide +kernel
theorem dX7_tells_89 : decode cX7_tells 89 = .ok (.ireturn, 1) := by decide +kernel
theorem dX7_tells_90 : decode cX7_tells 90 = .ok (.iload_n 2, 1) := by decide +kernel
theorem dX7_tells_91 : decode cX7_tells 91 = .ok (.ifCond .ne 13, 3) := by decide +kernel
theorem dX7_tells_94 : decode cX7_tells 94 = .ok (.aload_n 0, 1) := by decide +kernel
theorem dX7_tells_95 : decode cX7_tells 95 = .ok (.aload_n 0, 1) := by decide +kernel
theorem dX7_tells_96 : decode cX7_tells 96 = .ok (.getfield 10, 3) := by decide +kernel
theorem dX7_tells_99 : decode cX7_tells 99 = .ok (.iload_n 1, 1) := by decide +kernel
theorem dX7_tells_100 : decode cX7_tells 100 = .ok (.invokevirtual 202, 3) := by decide +kernel
theorem dX7_tells_103 : decode cX7_tells 103 = .ok (.ireturn, 1) := by decide +kernel
theorem dX7_tells_104 : decode cX7_tells 104 = .ok (.aload_n 0, 1) := by decide +kernel
theorem dX7_tells_105 : decode cX7_tells 105 = .ok (.iload_n 1, 1) := by decide +kernel
theorem dX7_tells_106 : decode cX7_tells 106 = .ok (.iload_n 2, 1) := by decide +kernel
theorem dX7_tells_107 : decode cX7_tells 107 = .ok (.invokevirtual 205, 3) := by decide +kernel
theorem dX7_tells_110 : decode cX7_tells 110 = .ok (.ireturn, 1) := by decide +kernel
theorem dX7_film_0 : decode cX7_film 0 = .ok (.aload_n 0, 1) := by decide +kernel
theorem dX7_film_1 : decode cX7_film 1 = .ok (.getfield 57, 3) := by decide +kernel
theorem dX7_film_4 : decode cX7_film 4 = .ok (.iload_n 1, 1) := by decide +kernel
theorem dX7_film_5 : decode cX7_film 5 = .ok (.invokevirtual 158, 3) := by decide +kernel
theorem dX7_film_8 : decode cX7_film 8 = .ok (.ifCond .ne 6, 3) := by decide +kernel
theorem dX7_film_11 : decode cX7_film 11 = .ok (.bipush (-2), 2) := by decide +kernel
theorem dX7_film_13 : decode cX7_film 13 = .ok (.ireturn, 1) := by decide +kernel
theorem dX7_film_14 : decode cX7_film 14 = .ok (.aload_n 0, 1) := by decide +kernel
theorem dX7_film_15 : decode cX7_film 15 = .ok (.getfield 41, 3) := by decide +kernel
theorem dX7_film_18 : decode cX7_film 18 = .ok (.aload_n 0, 1) := by decide +kernel
theorem dX7_film_19 : decode cX7_film 19 = .ok (.getfield 10, 3) := by decide +kernel
theorem dX7_film_22 : decode cX7_film 22 = .ok (.bipush 127, 2) := by decide +kernel
theorem dX7_film_24 : decode cX7_film 24 = .ok (.invokevirtual 113, 3) := by decide +kernel
theorem dX7_film_27 : decode cX7_film 27 = .ok (.aload_n 0, 1) := by decide +kernel
theorem dX7_film_28 : decode cX7_film 28 = .ok (.getfield 41, 3) := by decide +kernel
theorem dX7_film_31 : decode cX7_film 31 = .ok (.aload_n 0, 1) := by decide +kernel
theorem dX7_film_32 : decode cX7_film 32 = .ok (.getfield 10, 3) := by decide +kernel
theorem dX7_film_35 : decode cX7_film 35 = .ok (.invokevirtual 117, 3) := by decide +kernel
theorem dX7_film_38 : decode cX7_film 38 = .ok (.aload_n 0, 1) := by decide +kernel
theorem dX7_film_39 : decode cX7_film 39 = .ok (.getfield 57, 3) := by decide +kernel
theorem dX7_film_42 : decode cX7_film 42 = .ok (.iload_n 1, 1) := by decide +kernel
theorem dX7_film_43 : decode cX7_film 43 = .ok (.iconst 0, 1) := by decide +kernel
theorem dX7_film_44 : decode cX7_film 44 = .ok (.aload_n 0, 1) := by decide +kernel
theorem dX7_film_45 : decode cX7_film 45 = .ok (.getfield 10, 3) := by decide +kernel
theorem dX7_film_48 : decode cX7_film 48 = .ok (.getfield 82, 3) := by decide +kernel
theorem dX7_film_51 : decode cX7_film 51 = .ok (.invokevirtual 208, 3) := by decide +kernel
theorem dX7_film_54 : decode cX7_film 54 = .ok (.aload_n 0, 1) := by decide +kernel
theorem dX7_film_55 : decode cX7_film 55 = .ok (.getfield 41, 3) := by decide +kernel
theorem dX7_film_58 : decode cX7_film 58 = .ok (.invokevirtual 120, 3) := by decide +kernel
theorem dX7_film_61 : decode cX7_film 61 = .ok (.iconst 0, 1) := by decide +kernel
theorem dX7_film_62 : decode cX7_film 62 = .ok (.aload_n 0, 1) := by decide +kernel
theorem dX7_film_63 : decode cX7_film 63 = .ok (.getfield 57, 3) := by decide +kernel
theorem dX7_film_66 : decode cX7_film 66 = .ok (.getfield 211, 3) := by decide +kernel
theorem dX7_film_69 : decode cX7_film 69 = .ok (.iload_n 1, 1) := by decide +kernel
theorem dX7_film_70 : decode cX7_film 70 = .ok (.aaload, 1) := by decide +kernel
theorem dX7_film_71 : decode cX7_film 71 = .ok (.iconst 0, 1) := by decide +kernel
theorem dX7_film_72 : decode cX7_film 72 = .ok (.aload_n 0, 1) := by decide +kernel
theorem dX7_film_73 : decode cX7_film 73 = .ok (.getfield 10, 3) := by decide +kernel
theorem dX7_film_76 : decode cX7_film 76 = .ok (.getfield 82, 3) := by decide +kernel
theorem dX7_film_79 : decode cX7_film 79 = .ok (.invokestatic 124, 3) := by decide +kernel
theorem dX7_film_82 : decode cX7_film 82 = .ok (.aload_n 0, 1) := by decide +kernel
theorem dX7_film_83 : decode cX7_film 83 = .ok (.getfield 10, 3) := by decide +kernel
theorem dX7_film_86 : decode cX7_film 86 = .ok (.getfield 82, 3) := by decide +kernel
theorem dX7_film_89 : decode cX7_film 89 = .ok (.ireturn, 1) := by decide +kernel
theorem dX7_drawn_0 : decode cX7_drawn 0 = .ok (.aload_n 0, 1) := by decide +kernel
theorem dX7_drawn_1 : decode cX7_drawn 1 = .ok (.getfield 19, 3) := by decide +kernel
theorem dX7_drawn_4 : decode cX7_drawn 4 = .ok (.aload_n 0, 1) := by decide +kernel
theorem dX7_drawn_5 : decode cX7_drawn 5 = .ok (.getfield 10, 3) := by decide +kernel
theorem dX7_drawn_8 : decode cX7_drawn 8 = .ok (.invokevirtual 214, 3) := by decide +kernel
theorem dX7_drawn_11 : decode cX7_drawn 11 = .ok (.aload_n 0, 1) := by decide +kernel
theorem dX7_drawn_12 : decode cX7_drawn 12 = .ok (.getfield 19, 3) := by decide +kernel
theorem dX7_drawn_15 : decode cX7_drawn 15 = .ok (.iload_n 1, 1) := by decide +kernel
theorem dX7_drawn_16 : decode cX7_drawn 16 = .ok (.invokevirtual 216, 3) := by decide +kernel
theorem dX7_drawn_19 : decode cX7_drawn 19 = .ok (.aload_n 0, 1) := by decide +kernel
theorem dX7_drawn_20 : decode cX7_drawn 20 = .ok (.getfield 41, 3) := by decide +kernel
theorem dX7_drawn_23 : decode cX7_drawn 23 = .ok (.aload_n 0, 1) := by decide +kernel
theorem dX7_drawn_24 : decode cX7_drawn 24 = .ok (.getfield 19, 3) := by decide +kernel
theorem dX7_drawn_27 : decode cX7_drawn 27 = .ok (.bipush 127, 2) := by decide +kernel
theorem dX7_drawn_29 : decode cX7_drawn 29 = .ok (.invokevirtual 113, 3) := by decide +kernel
theorem dX7_drawn_32 : decode cX7_drawn 32 = .ok (.aload_n 0, 1) := by decide +kernel
theorem dX7_drawn_33 : decode cX7_drawn 33 = .ok (.getfield 41, 3) := by decide +kernel
theorem dX7_drawn_36 : decode cX7_drawn 36 = .ok (.aload_n 0, 1) := by decide +kernel
theorem dX7_drawn_37 : decode cX7_drawn 37 = .ok (.getfield 19, 3) := by decide +kernel
theorem dX7_drawn_40 : decode cX7_drawn 40 = .ok (.invokevirtual 117, 3) := by decide +kernel
theorem dX7_drawn_43 : decode cX7_drawn 43 = .ok (.aload_n 0, 1) := by decide +kernel
theorem dX7_drawn_44 : decode cX7_drawn 44 = .ok (.getfield 41, 3) := by decide +kernel
theorem dX7_drawn_47 : decode cX7_drawn 47 = .ok (.aload_n 0, 1) := by decide +kernel
theorem dX7_drawn_48 : decode cX7_drawn 48 = .ok (.getfield 19, 3) := by decide +kernel
theorem dX7_drawn_51 : decode cX7_drawn 51 = .ok (.invokevirtual 177, 3) := by decide +kernel
theorem dX7_drawn_54 : decode cX7_drawn 54 = .ok (.ireturn, 1) := by decide +kernel
theorem dX7_chance_0 : decode cX7_chance 0 = .ok (.iload_n 2, 1) := by decide +kernel
theorem dX7_chance_1 : decode cX7_chance 1 = .ok (.iconst 1, 1) := by decide +kernel
theorem dX7_chance_2 : decode cX7_chance 2 = .ok (.if_icmp .lt 18, 3) := by decide +kernel
theorem dX7_chance_5 : decode cX7_chance 5 = .ok (.iload_n 2, 1) := by decide +kernel
theorem dX7_chance_6 : decode cX7_chance 6 = .ok (.bipush 20, 2) := by decide +kernel
theorem dX7_chance_8 : decode cX7_chance 8 = .ok (.if_icmp .gt 12, 3) := by decide +kernel
theorem dX7_chance_11 : decode cX7_chance 11 = .ok (.iload_n 3, 1) := by decide +kernel
theorem dX7_chance_12 : decode cX7_chance 12 = .ok (.ifCond .lt 8, 3) := by decide +kernel
theorem dX7_chance_15 : decode cX7_chance 15 = .ok (.iload_n 3, 1) := by decide +kernel
theorem dX7_chance_16 : decode cX7_chance 16 = .ok (.iconst 1, 1) := by decide +kernel
theorem dX7_chance_17 : decode cX7_chance 17 = .ok (.if_icmp .le 7, 3) := by decide +kernel
theorem dX7_chance_20 : decode cX7_chance 20 = .ok (.ldc2_w 220, 3) := by decide +kernel
theorem dX7_chance_23 : decode cX7_chance 23 = .ok (.lreturn, 1) := by decide +kernel
theorem dX7_chance_24 : decode cX7_chance 24 = .ok (.iconst 0, 1) := by decide +kernel
theorem dX7_chance_25 : decode cX7_chance 25 = .ok (.istore 4, 2) := by decide +kernel
theorem dX7_chance_27 : decode cX7_chance 27 = .ok (.iconst 0, 1) := by decide +kernel
theorem dX7_chance_28 : decode cX7_chance 28 = .ok (.istore 5, 2) := by decide +kernel
theorem dX7_chance_30 : decode cX7_chance 30 = .ok (.iload 5, 2) := by decide +kernel
theorem dX7_chance_32 : decode cX7_chance 32 = .ok (.iload_n 2, 1) := by decide +kernel
theorem dX7_chance_33 : decode cX7_chance 33 = .ok (.if_icmp .ge 60, 3) := by decide +kernel
theorem dX7_chance_36 : decode cX7_chance 36 = .ok (.aload_n 0, 1) := by decide +kernel
theorem dX7_chance_37 : decode cX7_chance 37 = .ok (.iload_n 1, 1) := by decide +kernel
theorem dX7_chance_38 : decode cX7_chance 38 = .ok (.iload 5, 2) := by decide +kernel
theorem dX7_chance_40 : decode cX7_chance 40 = .ok (.iadd, 1) := by decide +kernel
theorem dX7_chance_41 : decode cX7_chance 41 = .ok (.invokevirtual 222, 3) := by decide +kernel
theorem dX7_chance_44 : decode cX7_chance 44 = .ok (.istore 6, 2) := by decide +kernel
theorem dX7_chance_46 : decode cX7_chance 46 = .ok (.aload_n 0, 1) := by decide +kernel
theorem dX7_chance_47 : decode cX7_chance 47 = .ok (.getfield 41, 3) := by decide +kernel
theorem dX7_chance_50 : decode cX7_chance 50 = .ok (.aload_n 0, 1) := by decide +kernel
theorem dX7_chance_51 : decode cX7_chance 51 = .ok (.getfield 19, 3) := by decide +kernel
theorem dX7_chance_54 : decode cX7_chance 54 = .ok (.invokevirtual 174, 3) := by decide +kernel
theorem dX7_chance_57 : decode cX7_chance 57 = .ok (.aload_n 0, 1) := by decide +kernel
theorem dX7_chance_58 : decode cX7_chance 58 = .ok (.getfield 41, 3) := by decide +kernel
theorem dX7_chance_61 : decode cX7_chance 61 = .ok (.aload_n 0, 1) := by decide +kernel
theorem dX7_chance_62 : decode cX7_chance 62 = .ok (.getfield 19, 3) := by decide +kernel
theorem dX7_chance_65 : decode cX7_chance 65 = .ok (.invokevirtual 117, 3) := by decide +kernel
theorem dX7_chance_68 : decode cX7_chance 68 = .ok (.aload_n 0, 1) := by decide +kernel
theorem dX7_chance_69 : decode cX7_chance 69 = .ok (.getfield 41, 3) := by decide +kernel
theorem dX7_chance_72 : decode cX7_chance 72 = .ok (.aload_n 0, 1) := by decide +kernel
theorem dX7_chance_73 : decode cX7_chance 73 = .ok (.getfield 19, 3) := by decide +kernel
theorem dX7_chance_76 : decode cX7_chance 76 = .ok (.invokevirtual 177, 3) := by decide +kernel
theorem dX7_chance_79 : decode cX7_chance 79 = .ok (.iload 6, 2) := by decide +kernel
theorem dX7_chance_81 : decode cX7_chance 81 = .ok (.if_icmp .gt 6, 3) := by decide +kernel
theorem dX7_chance_84 : decode cX7_chance 84 = .ok (.iinc 4 1, 3) := by decide +kernel
theorem dX7_chance_87 : decode cX7_chance 87 = .ok (.iinc 5 1, 3) := by decide +kernel
theorem dX7_chance_90 : decode cX7_chance 90 = .ok (.goto (-60), 3) := by decide +kernel
theorem dX7_chance_93 : decode cX7_chance 93 = .ok (.iload 4, 2) := by decide +kernel
theorem dX7_chance_95 : decode cX7_chance 95 = .ok (.iload_n 2, 1) := by decide +kernel
theorem dX7_chance_96 : decode cX7_chance 96 = .ok (.invokestatic 225, 3) := by decide +kernel
theorem dX7_chance_99 : decode cX7_chance 99 = .ok (.istore 5, 2) := by decide +kernel
theorem dX7_chance_101 : decode cX7_chance 101 = .ok (.iload 5, 2) := by decide +kernel
theorem dX7_chance_103 : decode cX7_chance 103 = .ok (.iconst 1, 1) := by decide +kernel
theorem dX7_chance_104 : decode cX7_chance 104 = .ok (.if_icmp .ge 7, 3) := by decide +kernel
theorem dX7_chance_107 : decode cX7_chance 107 = .ok (.ldc2_w 220, 3) := by decide +kernel
theorem dX7_chance_110 : decode cX7_chance 110 = .ok (.lreturn, 1) := by decide +kernel
theorem dX7_chance_111 : decode cX7_chance 111 = .ok (.iload_n 3, 1) := by decide +kernel
theorem dX7_chance_112 : decode cX7_chance 112 = .ok (.ifCond .ne 12, 3) := by decide +kernel
theorem dX7_chance_115 : decode cX7_chance 115 = .ok (.iload 4, 2) := by decide +kernel
theorem dX7_chance_117 : decode cX7_chance 117 = .ok (.iload 5, 2) := by decide +kernel
theorem dX7_chance_119 : decode cX7_chance 119 = .ok (.idiv, 1) := by decide +kernel
theorem dX7_chance_120 : decode cX7_chance 120 = .ok (.i2l, 1) := by decide +kernel
theorem dX7_chance_121 : decode cX7_chance 121 = .ok (.goto 8, 3) := by decide +kernel
theorem dX7_chance_124 : decode cX7_chance 124 = .ok (.iload_n 2, 1) := by decide +kernel
theorem dX7_chance_125 : decode cX7_chance 125 = .ok (.iload 5, 2) := by decide +kernel
theorem dX7_chance_127 : decode cX7_chance 127 = .ok (.idiv, 1) := by decide +kernel
theorem dX7_chance_128 : decode cX7_chance 128 = .ok (.i2l, 1) := by decide +kernel
theorem dX7_chance_129 : decode cX7_chance 129 = .ok (.lreturn, 1) := by decide +kernel
theorem dX7_image_0 : decode cX7_image 0 = .ok (.aload_n 0, 1) := by decide +kernel
theorem dX7_image_1 : decode cX7_image 1 = .ok (.getfield 16, 3) := by decide +kernel
theorem dX7_image_4 : decode cX7_image 4 = .ok (.aload_n 0, 1) := by decide +kernel
theorem dX7_image_5 : decode cX7_image 5 = .ok (.getfield 10, 3) := by decide +kernel
theorem dX7_image_8 : decode cX7_image 8 = .ok (.invokevirtual 214, 3) := by decide +kernel
theorem dX7_image_11 : decode cX7_image 11 = .ok (.aload_n 0, 1) := by decide +kernel
theorem dX7_image_12 : decode cX7_image 12 = .ok (.iconst 1, 1) := by decide +kernel
theorem dX7_image_13 : decode cX7_image 13 = .ok (.putfield 228, 3) := by decide +kernel
theorem dX7_image_16 : decode cX7_image 16 = .ok (.aload_n 0, 1) := by decide +kernel
theorem dX7_image_17 : decode cX7_image 17 = .ok (.getfield 16, 3) := by decide +kernel
theorem dX7_image_20 : decode cX7_image 20 = .ok (.getfield 82, 3) := by decide +kernel
theorem dX7_image_23 : decode cX7_image 23 = .ok (.ireturn, 1) := by decide +kernel
theorem dX7_back_0 : decode cX7_back 0 = .ok (.aload_n 0, 1) := by decide +kernel
theorem dX7_back_1 : decode cX7_back 1 = .ok (.getfield 228, 3) := by decide +kernel
theorem dX7_back_4 : decode cX7_back 4 = .ok (.ifCond .ne 6, 3) := by decide +kernel
theorem dX7_back_7 : decode cX7_back 7 = .ok (.bipush (-3), 2) := by decide +kernel
theorem dX7_back_9 : decode cX7_back 9 = .ok (.ireturn, 1) := by decide +kernel
theorem dX7_back_10 : decode cX7_back 10 = .ok (.aload_n 0, 1) := by decide +kernel
theorem dX7_back_11 : decode cX7_back 11 = .ok (.getfield 10, 3) := by decide +kernel
theorem dX7_back_14 : decode cX7_back 14 = .ok (.aload_n 0, 1) := by decide +kernel
theorem dX7_back_15 : decode cX7_back 15 = .ok (.getfield 16, 3) := by decide +kernel
theorem dX7_back_18 : decode cX7_back 18 = .ok (.invokevirtual 214, 3) := by decide +kernel
theorem dX7_back_21 : decode cX7_back 21 = .ok (.aload_n 0, 1) := by decide +kernel
theorem dX7_back_22 : decode cX7_back 22 = .ok (.getfield 10, 3) := by decide +kernel
theorem dX7_back_25 : decode cX7_back 25 = .ok (.getfield 82, 3) := by decide +kernel
theorem dX7_back_28 : decode cX7_back 28 = .ok (.ireturn, 1) := by decide +kernel
theorem dX7_count_0 : decode cX7_count 0 = .ok (.iload_n 1, 1) := by decide +kernel
theorem dX7_count_1 : decode cX7_count 1 = .ok (.tableswitch 82 0 4 #[35, 43, 51, 59, 67], 35) := by decide +kernel
theorem dX7_count_36 : decode cX7_count 36 = .ok (.aload_n 0, 1) := by decide +kernel
theorem dX7_count_37 : decode cX7_count 37 = .ok (.getfield 10, 3) := by decide +kernel
theorem dX7_count_40 : decode cX7_count 40 = .ok (.getfield 82, 3) := by decide +kernel
theorem dX7_count_43 : decode cX7_count 43 = .ok (.ireturn, 1) := by decide +kernel
theorem dX7_count_44 : decode cX7_count 44 = .ok (.aload_n 0, 1) := by decide +kernel
theorem dX7_count_45 : decode cX7_count 45 = .ok (.getfield 25, 3) := by decide +kernel
theorem dX7_count_48 : decode cX7_count 48 = .ok (.getfield 136, 3) := by decide +kernel
theorem dX7_count_51 : decode cX7_count 51 = .ok (.ireturn, 1) := by decide +kernel
theorem dX7_count_52 : decode cX7_count 52 = .ok (.aload_n 0, 1) := by decide +kernel
theorem dX7_count_53 : decode cX7_count 53 = .ok (.getfield 32, 3) := by decide +kernel
theorem dX7_count_56 : decode cX7_count 56 = .ok (.getfield 133, 3) := by decide +kernel
theorem dX7_count_59 : decode cX7_count 59 = .ok (.ireturn, 1) := by decide +kernel
theorem dX7_count_60 : decode cX7_count 60 = .ok (.aload_n 0, 1) := by decide +kernel
theorem dX7_count_61 : decode cX7_count 61 = .ok (.getfield 10, 3) := by decide +kernel
theorem dX7_count_64 : decode cX7_count 64 = .ok (.getfield 148, 3) := by decide +kernel
theorem dX7_count_67 : decode cX7_count 67 = .ok (.ireturn, 1) := by decide +kernel
theorem dX7_count_68 : decode cX7_count 68 = .ok (.aload_n 0, 1) := by decide +kernel
theorem dX7_count_69 : decode cX7_count 69 = .ok (.getfield 10, 3) := by decide +kernel
theorem dX7_count_72 : decode cX7_count 72 = .ok (.aload_n 0, 1) := by decide +kernel
theorem dX7_count_73 : decode cX7_count 73 = .ok (.getfield 10, 3) := by decide +kernel
theorem dX7_count_76 : decode cX7_count 76 = .ok (.getfield 97, 3) := by decide +kernel
theorem dX7_count_79 : decode cX7_count 79 = .ok (.invokevirtual 232, 3) := by decide +kernel
theorem dX7_count_82 : decode cX7_count 82 = .ok (.ireturn, 1) := by decide +kernel
theorem dX7_count_83 : decode cX7_count 83 = .ok (.bipush (-2), 2) := by decide +kernel
theorem dX7_count_85 : decode cX7_count 85 = .ok (.ireturn, 1) := by decide +kernel
theorem dX7_sheet_0 : decode cX7_sheet 0 = .ok (.aload_n 0, 1) := by decide +kernel
theorem dX7_sheet_1 : decode cX7_sheet 1 = .ok (.getfield 57, 3) := by decide +kernel
theorem dX7_sheet_4 : decode cX7_sheet 4 = .ok (.iload_n 1, 1) := by decide +kernel
theorem dX7_sheet_5 : decode cX7_sheet 5 = .ok (.invokevirtual 158, 3) := by decide +kernel
theorem dX7_sheet_8 : decode cX7_sheet 8 = .ok (.ifCond .eq 13, 3) := by decide +kernel
theorem dX7_sheet_11 : decode cX7_sheet 11 = .ok (.iload_n 2, 1) := by decide +kernel
theorem dX7_sheet_12 : decode cX7_sheet 12 = .ok (.iconst (-1), 1) := by decide +kernel
theorem dX7_sheet_13 : decode cX7_sheet 13 = .ok (.if_icmp .lt 8, 3) := by decide +kernel
theorem dX7_sheet_16 : decode cX7_sheet 16 = .ok (.iload_n 2, 1) := by decide +kernel
theorem dX7_sheet_17 : decode cX7_sheet 17 = .ok (.iconst 2, 1) := by decide +kernel
theorem dX7_sheet_18 : decode cX7_sheet 18 = .ok (.if_icmp .le 6, 3) := by decide +kernel
theorem dX7_sheet_21 : decode cX7_sheet 21 = .ok (.bipush (-2), 2) := by decide +kernel
theorem dX7_sheet_23 : decode cX7_sheet 23 = .ok (.ireturn, 1) := by decide +kernel
theorem dX7_sheet_24 : decode cX7_sheet 24 = .ok (.iload_n 2, 1) := by decide +kernel
theorem dX7_sheet_25 : decode cX7_sheet 25 = .ok (.iconst (-1), 1) := by decide +kernel
theorem dX7_sheet_26 : decode cX7_sheet 26 = .ok (.if_icmp .ne 15, 3) := by decide +kernel
theorem dX7_sheet_29 : decode cX7_sheet 29 = .ok (.aload_n 0, 1) := by decide +kernel
theorem dX7_sheet_30 : decode cX7_sheet 30 = .ok (.getfield 57, 3) := by decide +kernel
theorem dX7_sheet_33 : decode cX7_sheet 33 = .ok (.getfield 236, 3) := by decide +kernel
theorem dX7_sheet_36 : decode cX7_sheet 36 = .ok (.iload_n 1, 1) := by decide +kernel
theorem dX7_sheet_37 : decode cX7_sheet 37 = .ok (.iconst (-1), 1) := by decide +kernel
theorem dX7_sheet_38 : decode cX7_sheet 38 = .ok (.iastore, 1) := by decide +kernel
theorem dX7_sheet_39 : decode cX7_sheet 39 = .ok (.iconst 1, 1) := by decide +kernel
theorem dX7_sheet_40 : decode cX7_sheet 40 = .ok (.ireturn, 1) := by decide +kernel
theorem dX7_sheet_41 : decode cX7_sheet 41 = .ok (.iload_n 3, 1) := by decide +kernel
theorem dX7_sheet_42 : decode cX7_sheet 42 = .ok (.bipush 40, 2) := by decide +kernel
theorem dX7_sheet_44 : decode cX7_sheet 44 = .ok (.if_icmp .le 6, 3) := by decide +kernel
theorem dX7_sheet_47 : decode cX7_sheet 47 = .ok (.bipush (-2), 2) := by decide +kernel
theorem dX7_sheet_49 : decode cX7_sheet 49 = .ok (.ireturn, 1) := by decide +kernel
theorem dX7_sheet_50 : decode cX7_sheet 50 = .ok (.iload_n 3, 1) := by decide +kernel
theorem dX7_sheet_51 : decode cX7_sheet 51 = .ok (.ifCond .ge 6, 3) := by decide +kernel
theorem dX7_sheet_54 : decode cX7_sheet 54 = .ok (.bipush (-14), 2) := by decide +kernel
theorem dX7_sheet_56 : decode cX7_sheet 56 = .ok (.ireturn, 1) := by decide +kernel
theorem dX7_sheet_57 : decode cX7_sheet 57 = .ok (.aload_n 0, 1) := by decide +kernel
theorem dX7_sheet_58 : decode cX7_sheet 58 = .ok (.getfield 57, 3) := by decide +kernel
theorem dX7_sheet_61 : decode cX7_sheet 61 = .ok (.iload_n 1, 1) := by decide +kernel
theorem dX7_sheet_62 : decode cX7_sheet 62 = .ok (.iload_n 2, 1) := by decide +kernel
theorem dX7_sheet_63 : decode cX7_sheet 63 = .ok (.iload_n 3, 1) := by decide +kernel
theorem dX7_sheet_64 : decode cX7_sheet 64 = .ok (.invokevirtual 208, 3) := by decide +kernel
theorem dX7_sheet_67 : decode cX7_sheet 67 = .ok (.iconst 1, 1) := by decide +kernel
theorem dX7_sheet_68 : decode cX7_sheet 68 = .ok (.ireturn, 1) := by decide +kernel
theorem dX7_cell_0 : decode cX7_cell 0 = .ok (.aload_n 0, 1) := by decide +kernel
theorem dX7_cell_1 : decode cX7_cell 1 = .ok (.getfield 57, 3) := by decide +kernel
theorem dX7_cell_4 : decode cX7_cell 4 = .ok (.iload_n 1, 1) := by decide +kernel
theorem dX7_cell_5 : decode cX7_cell 5 = .ok (.invokevirtual 158, 3) := by decide +kernel
theorem dX7_cell_8 : decode cX7_cell 8 = .ok (.ifCond .ne 6, 3) := by decide +kernel
theorem dX7_cell_11 : decode cX7_cell 11 = .ok (.bipush (-2), 2) := by decide +kernel
theorem dX7_cell_13 : decode cX7_cell 13 = .ok (.ireturn, 1) := by decide +kernel
theorem dX7_cell_14 : decode cX7_cell 14 = .ok (.aload_n 0, 1) := by decide +kernel
theorem dX7_cell_15 : decode cX7_cell 15 = .ok (.getfield 57, 3) := by decide +kernel
theorem dX7_cell_18 : decode cX7_cell 18 = .ok (.iload_n 1, 1) := by decide +kernel
theorem dX7_cell_19 : decode cX7_cell 19 = .ok (.invokevirtual 159, 3) := by decide +kernel
theorem dX7_cell_22 : decode cX7_cell 22 = .ok (.ifCond .eq 6, 3) := by decide +kernel
theorem dX7_cell_25 : decode cX7_cell 25 = .ok (.bipush (-11), 2) := by decide +kernel
theorem dX7_cell_27 : decode cX7_cell 27 = .ok (.ireturn, 1) := by decide +kernel
theorem dX7_cell_28 : decode cX7_cell 28 = .ok (.aload_n 0, 1) := by decide +kernel
theorem dX7_cell_29 : decode cX7_cell 29 = .ok (.getfield 57, 3) := by decide +kernel
theorem dX7_cell_32 : decode cX7_cell 32 = .ok (.iload_n 1, 1) := by decide +kernel
theorem dX7_cell_33 : decode cX7_cell 33 = .ok (.iload_n 2, 1) := by decide +kernel
theorem dX7_cell_34 : decode cX7_cell 34 = .ok (.invokevirtual 239, 3) := by decide +kernel
theorem dX7_cell_37 : decode cX7_cell 37 = .ok (.ifCond .ne 6, 3) := by decide +kernel
theorem dX7_cell_40 : decode cX7_cell 40 = .ok (.bipush (-12), 2) := by decide +kernel
theorem dX7_cell_42 : decode cX7_cell 42 = .ok (.ireturn, 1) := by decide +kernel
theorem dX7_cell_43 : decode cX7_cell 43 = .ok (.aload_n 0, 1) := by decide +kernel
theorem dX7_cell_44 : decode cX7_cell 44 = .ok (.getfield 57, 3) := by decide +kernel
theorem dX7_cell_47 : decode cX7_cell 47 = .ok (.iload_n 1, 1) := by decide +kernel
theorem dX7_cell_48 : decode cX7_cell 48 = .ok (.iload_n 2, 1) := by decide +kernel
theorem dX7_cell_49 : decode cX7_cell 49 = .ok (.iload_n 3, 1) := by decide +kernel
theorem dX7_cell_50 : decode cX7_cell 50 = .ok (.invokevirtual 242, 3) := by decide +kernel
theorem dX7_cell_53 : decode cX7_cell 53 = .ok (.iconst 1, 1) := by decide +kernel
theorem dX7_cell_54 : decode cX7_cell 54 = .ok (.ireturn, 1) := by decide +kernel
theorem dX7_copy_0 : decode cX7_copy 0 = .ok (.aload_n 0, 1) := by decide +kernel
theorem dX7_copy_1 : decode cX7_copy 1 = .ok (.getfield 57, 3) := by decide +kernel
theorem dX7_copy_4 : decode cX7_copy 4 = .ok (.iload_n 1, 1) := by decide +kernel
theorem dX7_copy_5 : decode cX7_copy 5 = .ok (.invokevirtual 158, 3) := by decide +kernel
theorem dX7_copy_8 : decode cX7_copy 8 = .ok (.ifCond .eq 14, 3) := by decide +kernel
theorem dX7_copy_11 : decode cX7_copy 11 = .ok (.aload_n 0, 1) := by decide +kernel
theorem dX7_copy_12 : decode cX7_copy 12 = .ok (.getfield 57, 3) := by decide +kernel
theorem dX7_copy_15 : decode cX7_copy 15 = .ok (.iload_n 3, 1) := by decide +kernel
theorem dX7_copy_16 : decode cX7_copy 16 = .ok (.invokevirtual 158, 3) := by decide +kernel
theorem dX7_copy_19 : decode cX7_copy 19 = .ok (.ifCond .ne 6, 3) := by decide +kernel
theorem dX7_copy_22 : decode cX7_copy 22 = .ok (.bipush (-2), 2) := by decide +kernel
theorem dX7_copy_24 : decode cX7_copy 24 = .ok (.ireturn, 1) := by decide +kernel
theorem dX7_copy_25 : decode cX7_copy 25 = .ok (.aload_n 0, 1) := by decide +kernel
theorem dX7_copy_26 : decode cX7_copy 26 = .ok (.getfield 57, 3) := by decide +kernel
theorem dX7_copy_29 : decode cX7_copy 29 = .ok (.iload_n 1, 1) := by decide +kernel
theorem dX7_copy_30 : decode cX7_copy 30 = .ok (.invokevirtual 159, 3) := by decide +kernel
theorem dX7_copy_33 : decode cX7_copy 33 = .ok (.ifCond .ne 14, 3) := by decide +kernel
theorem dX7_copy_36 : decode cX7_copy 36 = .ok (.aload_n 0, 1) := by decide +kernel
theorem dX7_copy_37 : decode cX7_copy 37 = .ok (.getfield 57, 3) := by decide +kernel
theorem dX7_copy_40 : decode cX7_copy 40 = .ok (.iload_n 3, 1) := by decide +kernel
theorem dX7_copy_41 : decode cX7_copy 41 = .ok (.invokevirtual 159, 3) := by decide +kernel
theorem dX7_copy_44 : decode cX7_copy 44 = .ok (.ifCond .eq 6, 3) := by decide +kernel
theorem dX7_copy_47 : decode cX7_copy 47 = .ok (.bipush (-11), 2) := by decide +kernel
theorem dX7_copy_49 : decode cX7_copy 49 = .ok (.ireturn, 1) := by decide +kernel
theorem dX7_copy_50 : decode cX7_copy 50 = .ok (.aload_n 0, 1) := by decide +kernel
theorem dX7_copy_51 : decode cX7_copy 51 = .ok (.getfield 57, 3) := by decide +kernel
theorem dX7_copy_54 : decode cX7_copy 54 = .ok (.getfield 236, 3) := by decide +kernel
theorem dX7_copy_57 : decode cX7_copy 57 = .ok (.iload_n 1, 1) := by decide +kernel
theorem dX7_copy_58 : decode cX7_copy 58 = .ok (.iaload, 1) := by decide +kernel
theorem dX7_copy_59 : decode cX7_copy 59 = .ok (.aload_n 0, 1) := by decide +kernel
theorem dX7_copy_60 : decode cX7_copy 60 = .ok (.getfield 57, 3) := by decide +kernel
theorem dX7_copy_63 : decode cX7_copy 63 = .ok (.getfield 236, 3) := by decide +kernel
theorem dX7_copy_66 : decode cX7_copy 66 = .ok (.iload_n 3, 1) := by decide +kernel
theorem dX7_copy_67 : decode cX7_copy 67 = .ok (.iaload, 1) := by decide +kernel
theorem dX7_copy_68 : decode cX7_copy 68 = .ok (.if_icmp .eq 6, 3) := by decide +kernel
theorem dX7_copy_71 : decode cX7_copy 71 = .ok (.bipush (-13), 2) := by decide +kernel
theorem dX7_copy_73 : decode cX7_copy 73 = .ok (.ireturn, 1) := by decide +kernel
theorem dX7_copy_74 : decode cX7_copy 74 = .ok (.aload_n 0, 1) := by decide +kernel
theorem dX7_copy_75 : decode cX7_copy 75 = .ok (.getfield 57, 3) := by decide +kernel
theorem dX7_copy_78 : decode cX7_copy 78 = .ok (.iload_n 1, 1) := by decide +kernel
theorem dX7_copy_79 : decode cX7_copy 79 = .ok (.iload_n 2, 1) := by decide +kernel
theorem dX7_copy_80 : decode cX7_copy 80 = .ok (.iload 5, 2) := by decide +kernel
theorem dX7_copy_82 : decode cX7_copy 82 = .ok (.invokevirtual 243, 3) := by decide +kernel
theorem dX7_copy_85 : decode cX7_copy 85 = .ok (.ifCond .eq 18, 3) := by decide +kernel
theorem dX7_copy_88 : decode cX7_copy 88 = .ok (.aload_n 0, 1) := by decide +kernel
theorem dX7_copy_89 : decode cX7_copy 89 = .ok (.getfield 57, 3) := by decide +kernel
theorem dX7_copy_92 : decode cX7_copy 92 = .ok (.iload_n 3, 1) := by decide +kernel
theorem dX7_copy_93 : decode cX7_copy 93 = .ok (.iload 4, 2) := by decide +kernel
theorem dX7_copy_95 : decode cX7_copy 95 = .ok (.iload 5, 2) := by decide +kernel
theorem dX7_copy_97 : decode cX7_copy 97 = .ok (.invokevirtual 243, 3) := by decide +kernel
theorem dX7_copy_100 : decode cX7_copy 100 = .ok (.ifCond .ne 6, 3) := by decide +kernel
theorem dX7_copy_103 : decode cX7_copy 103 = .ok (.bipush (-12), 2) := by decide +kernel
theorem dX7_copy_105 : decode cX7_copy 105 = .ok (.ireturn, 1) := by decide +kernel
theorem dX7_copy_106 : decode cX7_copy 106 = .ok (.aload_n 0, 1) := by decide +kernel
theorem dX7_copy_107 : decode cX7_copy 107 = .ok (.getfield 57, 3) := by decide +kernel
theorem dX7_copy_110 : decode cX7_copy 110 = .ok (.getfield 211, 3) := by decide +kernel
theorem dX7_copy_113 : decode cX7_copy 113 = .ok (.iload_n 1, 1) := by decide +kernel
theorem dX7_copy_114 : decode cX7_copy 114 = .ok (.aaload, 1) := by decide +kernel
theorem dX7_copy_115 : decode cX7_copy 115 = .ok (.iload_n 2, 1) := by decide +kernel
theorem dX7_copy_116 : decode cX7_copy 116 = .ok (.aload_n 0, 1) := by decide +kernel
theorem dX7_copy_117 : decode cX7_copy 117 = .ok (.getfield 57, 3) := by decide +kernel
theorem dX7_copy_120 : decode cX7_copy 120 = .ok (.getfield 211, 3) := by decide +kernel
theorem dX7_copy_123 : decode cX7_copy 123 = .ok (.iload_n 3, 1) := by decide +kernel
theorem dX7_copy_124 : decode cX7_copy 124 = .ok (.aaload, 1) := by decide +kernel
theorem dX7_copy_125 : decode cX7_copy 125 = .ok (.iload 4, 2) := by decide +kernel
theorem dX7_copy_127 : decode cX7_copy 127 = .ok (.iload 5, 2) := by decide +kernel
theorem dX7_copy_129 : decode cX7_copy 129 = .ok (.invokestatic 124, 3) := by decide +kernel
theorem dX7_copy_132 : decode cX7_copy 132 = .ok (.iload 5, 2) := by decide +kernel
theorem dX7_copy_134 : decode cX7_copy 134 = .ok (.ireturn, 1) := by decide +kernel
theorem dX7_parts_0 : decode cX7_parts 0 = .ok (.aload_n 0, 1) := by decide +kernel
theorem dX7_parts_1 : decode cX7_parts 1 = .ok (.getfield 57, 3) := by decide +kernel
theorem dX7_parts_4 : decode cX7_parts 4 = .ok (.iload_n 1, 1) := by decide +kernel
theorem dX7_parts_5 : decode cX7_parts 5 = .ok (.invokevirtual 158, 3) := by decide +kernel
theorem dX7_parts_8 : decode cX7_parts 8 = .ok (.ifCond .eq 24, 3) := by decide +kernel
theorem dX7_parts_11 : decode cX7_parts 11 = .ok (.iload_n 2, 1) := by decide +kernel
theorem dX7_parts_12 : decode cX7_parts 12 = .ok (.ifCond .lt 20, 3) := by decide +kernel
theorem dX7_parts_15 : decode cX7_parts 15 = .ok (.iload_n 2, 1) := by decide +kernel
theorem dX7_parts_16 : decode cX7_parts 16 = .ok (.iconst 2, 1) := by decide +kernel
theorem dX7_parts_17 : decode cX7_parts 17 = .ok (.if_icmp .gt 15, 3) := by decide +kernel
theorem dX7_parts_20 : decode cX7_parts 20 = .ok (.iload 4, 2) := by decide +kernel
theorem dX7_parts_22 : decode cX7_parts 22 = .ok (.ifCond .lt 10, 3) := by decide +kernel
theorem dX7_parts_25 : decode cX7_parts 25 = .ok (.iload 4, 2) := by decide +kernel
theorem dX7_parts_27 : decode cX7_parts 27 = .ok (.bipush 7, 2) := by decide +kernel
theorem dX7_parts_29 : decode cX7_parts 29 = .ok (.if_icmp .le 6, 3) := by decide +kernel
theorem dX7_parts_32 : decode cX7_parts 32 = .ok (.bipush (-2), 2) := by decide +kernel
theorem dX7_parts_34 : decode cX7_parts 34 = .ok (.ireturn, 1) := by decide +kernel
theorem dX7_parts_35 : decode cX7_parts 35 = .ok (.aload_n 0, 1) := by decide +kernel
theorem dX7_parts_36 : decode cX7_parts 36 = .ok (.getfield 57, 3) := by decide +kernel
theorem dX7_parts_39 : decode cX7_parts 39 = .ok (.iload_n 1, 1) := by decide +kernel
theorem dX7_parts_40 : decode cX7_parts 40 = .ok (.invokevirtual 159, 3) := by decide +kernel
theorem dX7_parts_43 : decode cX7_parts 43 = .ok (.ifCond .eq 6, 3) := by decide +kernel
theorem dX7_parts_46 : decode cX7_parts 46 = .ok (.bipush (-11), 2) := by decide +kernel
theorem dX7_parts_48 : decode cX7_parts 48 = .ok (.ireturn, 1) := by decide +kernel
theorem dX7_parts_49 : decode cX7_parts 49 = .ok (.aload_n 0, 1) := by decide +kernel
theorem dX7_parts_50 : decode cX7_parts 50 = .ok (.getfield 57, 3) := by decide +kernel
theorem dX7_parts_53 : decode cX7_parts 53 = .ok (.getfield 236, 3) := by decide +kernel
theorem dX7_parts_56 : decode cX7_parts 56 = .ok (.iload_n 1, 1) := by decide +kernel
theorem dX7_parts_57 : decode cX7_parts 57 = .ok (.iaload, 1) := by decide +kernel
theorem dX7_parts_58 : decode cX7_parts 58 = .ok (.iload_n 2, 1) := by decide +kernel
theorem dX7_parts_59 : decode cX7_parts 59 = .ok (.if_icmp .eq 6, 3) := by decide +kernel
theorem dX7_parts_62 : decode cX7_parts 62 = .ok (.bipush (-13), 2) := by decide +kernel
theorem dX7_parts_64 : decode cX7_parts 64 = .ok (.ireturn, 1) := by decide +kernel
theorem dX7_parts_65 : decode cX7_parts 65 = .ok (.iconst 0, 1) := by decide +kernel
theorem dX7_parts_66 : decode cX7_parts 66 = .ok (.istore 5, 2) := by decide +kernel
theorem dX7_parts_68 : decode cX7_parts 68 = .ok (.iconst 0, 1) := by decide +kernel
theorem dX7_parts_69 : decode cX7_parts 69 = .ok (.istore 6, 2) := by decide +kernel
theorem dX7_parts_71 : decode cX7_parts 71 = .ok (.iload 6, 2) := by decide +kernel
theorem dX7_parts_73 : decode cX7_parts 73 = .ok (.iload 4, 2) := by decide +kernel
theorem dX7_parts_75 : decode cX7_parts 75 = .ok (.if_icmp .ge 84, 3) := by decide +kernel
theorem dX7_parts_78 : decode cX7_parts 78 = .ok (.iload_n 3, 1) := by decide +kernel
theorem dX7_parts_79 : decode cX7_parts 79 = .ok (.iconst 2, 1) := by decide +kernel
theorem dX7_parts_80 : decode cX7_parts 80 = .ok (.iload 6, 2) := by decide +kernel
theorem dX7_parts_82 : decode cX7_parts 82 = .ok (.imul, 1) := by decide +kernel
theorem dX7_parts_83 : decode cX7_parts 83 = .ok (.iadd, 1) := by decide +kernel
theorem dX7_parts_84 : decode cX7_parts 84 = .ok (.istore 7, 2) := by decide +kernel
theorem dX7_parts_86 : decode cX7_parts 86 = .ok (.aload_n 0, 1) := by decide +kernel
theorem dX7_parts_87 : decode cX7_parts 87 = .ok (.getfield 57, 3) := by decide +kernel
theorem dX7_parts_90 : decode cX7_parts 90 = .ok (.iload_n 1, 1) := by decide +kernel
theorem dX7_parts_91 : decode cX7_parts 91 = .ok (.iload 7, 2) := by decide +kernel
theorem dX7_parts_93 : decode cX7_parts 93 = .ok (.invokevirtual 239, 3) := by decide +kernel
theorem dX7_parts_96 : decode cX7_parts 96 = .ok (.ifCond .eq 18, 3) := by decide +kernel
theorem dX7_parts_99 : decode cX7_parts 99 = .ok (.aload_n 0, 1) := by decide +kernel
theorem dX7_parts_100 : decode cX7_parts 100 = .ok (.getfield 57, 3) := by decide +kernel
theorem dX7_parts_103 : decode cX7_parts 103 = .ok (.iload_n 1, 1) := by decide +kernel
theorem dX7_parts_104 : decode cX7_parts 104 = .ok (.iload 7, 2) := by decide +kernel
theorem dX7_parts_106 : decode cX7_parts 106 = .ok (.iconst 1, 1) := by decide +kernel
theorem dX7_parts_107 : decode cX7_parts 107 = .ok (.iadd, 1) := by decide +kernel
theorem dX7_parts_108 : decode cX7_parts 108 = .ok (.invokevirtual 239, 3) := by decide +kernel
theorem dX7_parts_111 : decode cX7_parts 111 = .ok (.ifCond .ne 6, 3) := by decide +kernel
theorem dX7_parts_114 : decode cX7_parts 114 = .ok (.bipush (-12), 2) := by decide +kernel
theorem dX7_parts_116 : decode cX7_parts 116 = .ok (.ireturn, 1) := by decide +kernel
theorem dX7_parts_117 : decode cX7_parts 117 = .ok (.aload_n 0, 1) := by decide +kernel
theorem dX7_parts_118 : decode cX7_parts 118 = .ok (.aload_n 0, 1) := by decide +kernel
theorem dX7_parts_119 : decode cX7_parts 119 = .ok (.getfield 57, 3) := by decide +kernel
theorem dX7_parts_122 : decode cX7_parts 122 = .ok (.getfield 211, 3) := by decide +kernel
theorem dX7_parts_125 : decode cX7_parts 125 = .ok (.iload_n 1, 1) := by decide +kernel
theorem dX7_parts_126 : decode cX7_parts 126 = .ok (.aaload, 1) := by decide +kernel
theorem dX7_parts_127 : decode cX7_parts 127 = .ok (.iload 7, 2) := by decide +kernel
theorem dX7_parts_129 : decode cX7_parts 129 = .ok (.iaload, 1) := by decide +kernel
theorem dX7_parts_130 : decode cX7_parts 130 = .ok (.aload_n 0, 1) := by decide +kernel
theorem dX7_parts_131 : decode cX7_parts 131 = .ok (.getfield 57, 3) := by decide +kernel
theorem dX7_parts_134 : decode cX7_parts 134 = .ok (.getfield 211, 3) := by decide +kernel
theorem dX7_parts_137 : decode cX7_parts 137 = .ok (.iload_n 1, 1) := by decide +kernel
theorem dX7_parts_138 : decode cX7_parts 138 = .ok (.aaload, 1) := by decide +kernel
theorem dX7_parts_139 : decode cX7_parts 139 = .ok (.iload 7, 2) := by decide +kernel
theorem dX7_parts_141 : decode cX7_parts 141 = .ok (.iconst 1, 1) := by decide +kernel
theorem dX7_parts_142 : decode cX7_parts 142 = .ok (.iadd, 1) := by decide +kernel
theorem dX7_parts_143 : decode cX7_parts 143 = .ok (.iaload, 1) := by decide +kernel
theorem dX7_parts_144 : decode cX7_parts 144 = .ok (.invokevirtual 247, 3) := by decide +kernel
theorem dX7_parts_147 : decode cX7_parts 147 = .ok (.ifCond .lt 6, 3) := by decide +kernel
theorem dX7_parts_150 : decode cX7_parts 150 = .ok (.iinc 5 1, 3) := by decide +kernel
theorem dX7_parts_153 : decode cX7_parts 153 = .ok (.iinc 6 1, 3) := by decide +kernel
theorem dX7_parts_156 : decode cX7_parts 156 = .ok (.goto (-85), 3) := by decide +kernel
theorem dX7_parts_159 : decode cX7_parts 159 = .ok (.iload 5, 2) := by decide +kernel
theorem dX7_parts_161 : decode cX7_parts 161 = .ok (.ireturn, 1) := by decide +kernel
theorem dX7_taken_0 : decode cX7_taken 0 = .ok (.iload_n 2, 1) := by decide +kernel
theorem dX7_taken_1 : decode cX7_taken 1 = .ok (.ifCond .lt 9, 3) := by decide +kernel
theorem dX7_taken_4 : decode cX7_taken 4 = .ok (.iload_n 2, 1) := by decide +kernel
theorem dX7_taken_5 : decode cX7_taken 5 = .ok (.bipush 6, 2) := by decide +kernel
theorem dX7_taken_7 : decode cX7_taken 7 = .ok (.if_icmp .lt 6, 3) := by decide +kernel
theorem dX7_taken_10 : decode cX7_taken 10 = .ok (.bipush (-2), 2) := by decide +kernel
theorem dX7_taken_12 : decode cX7_taken 12 = .ok (.ireturn, 1) := by decide +kernel
theorem dX7_taken_13 : decode cX7_taken 13 = .ok (.aload_n 0, 1) := by decide +kernel
theorem dX7_taken_14 : decode cX7_taken 14 = .ok (.getfield 10, 3) := by decide +kernel
theorem dX7_taken_17 : decode cX7_taken 17 = .ok (.iload_n 1, 1) := by decide +kernel
theorem dX7_taken_18 : decode cX7_taken 18 = .ok (.invokevirtual 109, 3) := by decide +kernel
theorem dX7_taken_21 : decode cX7_taken 21 = .ok (.ifCond .ne 6, 3) := by decide +kernel
theorem dX7_taken_24 : decode cX7_taken 24 = .ok (.bipush (-11), 2) := by decide +kernel
theorem dX7_taken_26 : decode cX7_taken 26 = .ok (.ireturn, 1) := by decide +kernel
theorem dX7_taken_27 : decode cX7_taken 27 = .ok (.aload_n 0, 1) := by decide +kernel
theorem dX7_taken_28 : decode cX7_taken 28 = .ok (.getfield 10, 3) := by decide +kernel
theorem dX7_taken_31 : decode cX7_taken 31 = .ok (.getfield 86, 3) := by decide +kernel
theorem dX7_taken_34 : decode cX7_taken 34 = .ok (.iload_n 1, 1) := by decide +kernel
theorem dX7_taken_35 : decode cX7_taken 35 = .ok (.iaload, 1) := by decide +kernel
theorem dX7_taken_36 : decode cX7_taken 36 = .ok (.iload_n 2, 1) := by decide +kernel
theorem dX7_taken_37 : decode cX7_taken 37 = .ok (.invokestatic 250, 3) := by decide +kernel
theorem dX7_taken_40 : decode cX7_taken 40 = .ok (.ifCond .eq 15, 3) := by decide +kernel
theorem dX7_taken_43 : decode cX7_taken 43 = .ok (.aload_n 0, 1) := by decide +kernel
theorem dX7_taken_44 : decode cX7_taken 44 = .ok (.getfield 10, 3) := by decide +kernel
theorem dX7_taken_47 : decode cX7_taken 47 = .ok (.getfield 253, 3) := by decide +kernel
theorem dX7_taken_50 : decode cX7_taken 50 = .ok (.iload_n 1, 1) := by decide +kernel
theorem dX7_taken_51 : decode cX7_taken 51 = .ok (.iaload, 1) := by decide +kernel
theorem dX7_taken_52 : decode cX7_taken 52 = .ok (.goto 5, 3) := by decide +kernel
theorem dX7_taken_55 : decode cX7_taken 55 = .ok (.bipush (-13), 2) := by decide +kernel
theorem dX7_taken_57 : decode cX7_taken 57 = .ok (.ireturn, 1) := by decide +kernel
theorem dX7_isNoPart_0 : decode cX7_isNoPart 0 = .ok (.iload_n 1, 1) := by decide +kernel
theorem dX7_isNoPart_1 : decode cX7_isNoPart 1 = .ok (.iconst 1, 1) := by decide +kernel
theorem dX7_isNoPart_2 : decode cX7_isNoPart 2 = .ok (.if_icmp .le 18, 3) := by decide +kernel
theorem dX7_isNoPart_5 : decode cX7_isNoPart 5 = .ok (.aload_n 0, 1) := by decide +kernel
theorem dX7_isNoPart_6 : decode cX7_isNoPart 6 = .ok (.getfield 10, 3) := by decide +kernel
theorem dX7_isNoPart_9 : decode cX7_isNoPart 9 = .ok (.iload_n 2, 1) := by decide +kernel
theorem dX7_isNoPart_10 : decode cX7_isNoPart 10 = .ok (.invokevirtual 109, 3) := by decide +kernel
theorem dX7_isNoPart_13 : decode cX7_isNoPart 13 = .ok (.ifCond .ne 7, 3) := by decide +kernel
theorem dX7_isNoPart_16 : decode cX7_isNoPart 16 = .ok (.iconst 1, 1) := by decide +kernel
theorem dX7_isNoPart_17 : decode cX7_isNoPart 17 = .ok (.goto 4, 3) := by decide +kernel
theorem dX7_isNoPart_20 : decode cX7_isNoPart 20 = .ok (.iconst 0, 1) := by decide +kernel
theorem dX7_isNoPart_21 : decode cX7_isNoPart 21 = .ok (.ireturn, 1) := by decide +kernel
theorem dX7_isOfOrder_0 : decode cX7_isOfOrder 0 = .ok (.iload_n 1, 1) := by decide +kernel
theorem dX7_isOfOrder_1 : decode cX7_isOfOrder 1 = .ok (.ifCond .eq 34, 3) := by decide +kernel
theorem dX7_isOfOrder_4 : decode cX7_isOfOrder 4 = .ok (.iload_n 1, 1) := by decide +kernel
theorem dX7_isOfOrder_5 : decode cX7_isOfOrder 5 = .ok (.iconst 1, 1) := by decide +kernel
theorem dX7_isOfOrder_6 : decode cX7_isOfOrder 6 = .ok (.if_icmp .eq 29, 3) := by decide +kernel
theorem dX7_isOfOrder_9 : decode cX7_isOfOrder 9 = .ok (.iload_n 1, 1) := by decide +kernel
theorem dX7_isOfOrder_10 : decode cX7_isOfOrder 10 = .ok (.bipush 10, 2) := by decide +kernel
theorem dX7_isOfOrder_12 : decode cX7_isOfOrder 12 = .ok (.if_icmp .lt 27, 3) := by decide +kernel
theorem dX7_isOfOrder_15 : decode cX7_isOfOrder 15 = .ok (.iload_n 1, 1) := by decide +kernel
theorem dX7_isOfOrder_16 : decode cX7_isOfOrder 16 = .ok (.bipush 29, 2) := by decide +kernel
theorem dX7_isOfOrder_18 : decode cX7_isOfOrder 18 = .ok (.if_icmp .gt 21, 3) := by decide +kernel
theorem dX7_isOfOrder_21 : decode cX7_isOfOrder 21 = .ok (.aload_n 0, 1) := by decide +kernel
theorem dX7_isOfOrder_22 : decode cX7_isOfOrder 22 = .ok (.getfield 10, 3) := by decide +kernel
theorem dX7_isOfOrder_25 : decode cX7_isOfOrder 25 = .ok (.iload_n 1, 1) := by decide +kernel
theorem dX7_isOfOrder_26 : decode cX7_isOfOrder 26 = .ok (.bipush 10, 2) := by decide +kernel
theorem dX7_isOfOrder_28 : decode cX7_isOfOrder 28 = .ok (.irem, 1) := by decide +kernel
theorem dX7_isOfOrder_29 : decode cX7_isOfOrder 29 = .ok (.invokevirtual 109, 3) := by decide +kernel
theorem dX7_isOfOrder_32 : decode cX7_isOfOrder 32 = .ok (.ifCond .eq 7, 3) := by decide +kernel
theorem dX7_isOfOrder_35 : decode cX7_isOfOrder 35 = .ok (.iconst 1, 1) := by decide +kernel
theorem dX7_isOfOrder_36 : decode cX7_isOfOrder 36 = .ok (.goto 4, 3) := by decide +kernel
theorem dX7_isOfOrder_39 : decode cX7_isOfOrder 39 = .ok (.iconst 0, 1) := by decide +kernel
theorem dX7_isOfOrder_40 : decode cX7_isOfOrder 40 = .ok (.ireturn, 1) := by decide +kernel
theorem dX7_takesOrder_0 : decode cX7_takesOrder 0 = .ok (.iconst 0, 1) := by decide +kernel
theorem dX7_takesOrder_1 : decode cX7_takesOrder 1 = .ok (.istore_n 2, 1) := by decide +kernel
theorem dX7_takesOrder_2 : decode cX7_takesOrder 2 = .ok (.aload_n 0, 1) := by decide +kernel
theorem dX7_takesOrder_3 : decode cX7_takesOrder 3 = .ok (.getfield 41, 3) := by decide +kernel
theorem dX7_takesOrder_6 : decode cX7_takesOrder 6 = .ok (.invokevirtual 256, 3) := by decide +kernel
theorem dX7_takesOrder_9 : decode cX7_takesOrder 9 = .ok (.iconst 0, 1) := by decide +kernel
theorem dX7_takesOrder_10 : decode cX7_takesOrder 10 = .ok (.istore_n 3, 1) := by decide +kernel
theorem dX7_takesOrder_11 : decode cX7_takesOrder 11 = .ok (.iload_n 3, 1) := by decide +kernel
theorem dX7_takesOrder_12 : decode cX7_takesOrder 12 = .ok (.aload_n 0, 1) := by decide +kernel
theorem dX7_takesOrder_13 : decode cX7_takesOrder 13 = .ok (.getfield 57, 3) := by decide +kernel
theorem dX7_takesOrder_16 : decode cX7_takesOrder 16 = .ok (.getfield 200, 3) := by decide +kernel
theorem dX7_takesOrder_19 : decode cX7_takesOrder 19 = .ok (.iload_n 1, 1) := by decide +kernel
theorem dX7_takesOrder_20 : decode cX7_takesOrder 20 = .ok (.iaload, 1) := by decide +kernel
theorem dX7_takesOrder_21 : decode cX7_takesOrder 21 = .ok (.if_icmp .ge 61, 3) := by decide +kernel
theorem dX7_takesOrder_24 : decode cX7_takesOrder 24 = .ok (.aload_n 0, 1) := by decide +kernel
theorem dX7_takesOrder_25 : decode cX7_takesOrder 25 = .ok (.getfield 57, 3) := by decide +kernel
theorem dX7_takesOrder_28 : decode cX7_takesOrder 28 = .ok (.getfield 211, 3) := by decide +kernel
theorem dX7_takesOrder_31 : decode cX7_takesOrder 31 = .ok (.iload_n 1, 1) := by decide +kernel
theorem dX7_takesOrder_32 : decode cX7_takesOrder 32 = .ok (.aaload, 1) := by decide +kernel
theorem dX7_takesOrder_33 : decode cX7_takesOrder 33 = .ok (.iload_n 3, 1) := by decide +kernel
theorem dX7_takesOrder_34 : decode cX7_takesOrder 34 = .ok (.iaload, 1) := by decide +kernel
theorem dX7_takesOrder_35 : decode cX7_takesOrder 35 = .ok (.istore 4, 2) := by decide +kernel
theorem dX7_takesOrder_37 : decode cX7_takesOrder 37 = .ok (.aload_n 0, 1) := by decide +kernel
theorem dX7_takesOrder_38 : decode cX7_takesOrder 38 = .ok (.getfield 10, 3) := by decide +kernel
theorem dX7_takesOrder_41 : decode cX7_takesOrder 41 = .ok (.iload 4, 2) := by decide +kernel
theorem dX7_takesOrder_43 : decode cX7_takesOrder 43 = .ok (.invokevirtual 109, 3) := by decide +kernel
theorem dX7_takesOrder_46 : decode cX7_takesOrder 46 = .ok (.ifCond .eq 12, 3) := by decide +kernel
theorem dX7_takesOrder_49 : decode cX7_takesOrder 49 = .ok (.iload_n 2, 1) := by decide +kernel
theorem dX7_takesOrder_50 : decode cX7_takesOrder 50 = .ok (.iload 4, 2) := by decide +kernel
theorem dX7_takesOrder_52 : decode cX7_takesOrder 52 = .ok (.ishr, 1) := by decide +kernel
theorem dX7_takesOrder_53 : decode cX7_takesOrder 53 = .ok (.iconst 1, 1) := by decide +kernel
theorem dX7_takesOrder_54 : decode cX7_takesOrder 54 = .ok (.iand, 1) := by decide +kernel
theorem dX7_takesOrder_55 : decode cX7_takesOrder 55 = .ok (.ifCond .eq 5, 3) := by decide +kernel
theorem dX7_takesOrder_58 : decode cX7_takesOrder 58 = .ok (.iconst 0, 1) := by decide +kernel
theorem dX7_takesOrder_59 : decode cX7_takesOrder 59 = .ok (.ireturn, 1) := by decide +kernel
theorem dX7_takesOrder_60 : decode cX7_takesOrder 60 = .ok (.iload_n 2, 1) := by decide +kernel
theorem dX7_takesOrder_61 : decode cX7_takesOrder 61 = .ok (.iconst 1, 1) := by decide +kernel
theorem dX7_takesOrder_62 : decode cX7_takesOrder 62 = .ok (.iload 4, 2) := by decide +kernel
theorem dX7_takesOrder_64 : decode cX7_takesOrder 64 = .ok (.ishl, 1) := by decide +kernel
theorem dX7_takesOrder_65 : decode cX7_takesOrder 65 = .ok (.ior, 1) := by decide +kernel
theorem dX7_takesOrder_66 : decode cX7_takesOrder 66 = .ok (.istore_n 2, 1) := by decide +kernel
theorem dX7_takesOrder_67 : decode cX7_takesOrder 67 = .ok (.aload_n 0, 1) := by decide +kernel
theorem dX7_takesOrder_68 : decode cX7_takesOrder 68 = .ok (.getfield 41, 3) := by decide +kernel
theorem dX7_takesOrder_71 : decode cX7_takesOrder 71 = .ok (.iload 4, 2) := by decide +kernel
theorem dX7_takesOrder_73 : decode cX7_takesOrder 73 = .ok (.invokevirtual 259, 3) := by decide +kernel
theorem dX7_takesOrder_76 : decode cX7_takesOrder 76 = .ok (.iinc 3 1, 3) := by decide +kernel
theorem dX7_takesOrder_79 : decode cX7_takesOrder 79 = .ok (.goto (-68), 3) := by decide +kernel
theorem dX7_takesOrder_82 : decode cX7_takesOrder 82 = .ok (.iconst 1, 1) := by decide +kernel
theorem dX7_takesOrder_83 : decode cX7_takesOrder 83 = .ok (.ireturn, 1) := by decide +kernel
theorem dX7_otherwise_0 : decode cX7_otherwise 0 = .ok (.aload_n 0, 1) := by decide +kernel
theorem dX7_otherwise_1 : decode cX7_otherwise 1 = .ok (.getfield 41, 3) := by decide +kernel
theorem dX7_otherwise_4 : decode cX7_otherwise 4 = .ok (.aload_n 1, 1) := by decide +kernel
theorem dX7_otherwise_5 : decode cX7_otherwise 5 = .ok (.bipush 127, 2) := by decide +kernel
theorem dX7_otherwise_7 : decode cX7_otherwise 7 = .ok (.invokevirtual 113, 3) := by decide +kernel
theorem dX7_otherwise_10 : decode cX7_otherwise 10 = .ok (.aload_n 0, 1) := by decide +kernel
theorem dX7_otherwise_11 : decode cX7_otherwise 11 = .ok (.getfield 41, 3) := by decide +kernel
theorem dX7_otherwise_14 : decode cX7_otherwise 14 = .ok (.aload_n 1, 1) := by decide +kernel
theorem dX7_otherwise_15 : decode cX7_otherwise 15 = .ok (.invokevirtual 117, 3) := by decide +kernel
theorem dX7_otherwise_18 : decode cX7_otherwise 18 = .ok (.aload_n 0, 1) := by decide +kernel
theorem dX7_otherwise_19 : decode cX7_otherwise 19 = .ok (.getfield 41, 3) := by decide +kernel
theorem dX7_otherwise_22 : decode cX7_otherwise 22 = .ok (.invokevirtual 120, 3) := by decide +kernel
theorem dX7_otherwise_25 : decode cX7_otherwise 25 = .ok (.astore_n 3, 1) := by decide +kernel
theorem dX7_otherwise_26 : decode cX7_otherwise 26 = .ok (.iconst 0, 1) := by decide +kernel
theorem dX7_otherwise_27 : decode cX7_otherwise 27 = .ok (.istore 4, 2) := by decide +kernel
theorem dX7_otherwise_29 : decode cX7_otherwise 29 = .ok (.iconst 0, 1) := by decide +kernel
theorem dX7_otherwise_30 : decode cX7_otherwise 30 = .ok (.istore 5, 2) := by decide +kernel
theorem dX7_otherwise_32 : decode cX7_otherwise 32 = .ok (.iload 5, 2) := by decide +kernel
theorem dX7_otherwise_34 : decode cX7_otherwise 34 = .ok (.aload_n 1, 1) := by decide +kernel
theorem dX7_otherwise_35 : decode cX7_otherwise 35 = .ok (.getfield 82, 3) := by decide +kernel
theorem dX7_otherwise_38 : decode cX7_otherwise 38 = .ok (.if_icmp .ge 37, 3) := by decide +kernel
theorem dX7_otherwise_41 : decode cX7_otherwise 41 = .ok (.aload_n 3, 1) := by decide +kernel
theorem dX7_otherwise_42 : decode cX7_otherwise 42 = .ok (.iload 5, 2) := by decide +kernel
theorem dX7_otherwise_44 : decode cX7_otherwise 44 = .ok (.iaload, 1) := by decide +kernel
theorem dX7_otherwise_45 : decode cX7_otherwise 45 = .ok (.aload_n 0, 1) := by decide +kernel
theorem dX7_otherwise_46 : decode cX7_otherwise 46 = .ok (.getfield 57, 3) := by decide +kernel
theorem dX7_otherwise_49 : decode cX7_otherwise 49 = .ok (.getfield 211, 3) := by decide +kernel
theorem dX7_otherwise_52 : decode cX7_otherwise 52 = .ok (.iload_n 2, 1) := by decide +kernel
theorem dX7_otherwise_53 : decode cX7_otherwise 53 = .ok (.aaload, 1) := by decide +kernel
theorem dX7_otherwise_54 : decode cX7_otherwise 54 = .ok (.iload 5, 2) := by decide +kernel
theorem dX7_otherwise_56 : decode cX7_otherwise 56 = .ok (.iaload, 1) := by decide +kernel
theorem dX7_otherwise_57 : decode cX7_otherwise 57 = .ok (.if_icmp .eq 12, 3) := by decide +kernel
theorem dX7_otherwise_60 : decode cX7_otherwise 60 = .ok (.iload 4, 2) := by decide +kernel
theorem dX7_otherwise_62 : decode cX7_otherwise 62 = .ok (.iconst 1, 1) := by decide +kernel
theorem dX7_otherwise_63 : decode cX7_otherwise 63 = .ok (.iload 5, 2) := by decide +kernel
theorem dX7_otherwise_65 : decode cX7_otherwise 65 = .ok (.ishl, 1) := by decide +kernel
theorem dX7_otherwise_66 : decode cX7_otherwise 66 = .ok (.ior, 1) := by decide +kernel
theorem dX7_otherwise_67 : decode cX7_otherwise 67 = .ok (.istore 4, 2) := by decide +kernel
theorem dX7_otherwise_69 : decode cX7_otherwise 69 = .ok (.iinc 5 1, 3) := by decide +kernel
theorem dX7_otherwise_72 : decode cX7_otherwise 72 = .ok (.goto (-40), 3) := by decide +kernel
theorem dX7_otherwise_75 : decode cX7_otherwise 75 = .ok (.iload 4, 2) := by decide +kernel
theorem dX7_otherwise_77 : decode cX7_otherwise 77 = .ok (.ireturn, 1) := by decide +kernel
theorem dX7_readBack_0 : decode cX7_readBack 0 = .ok (.iload_n 2, 1) := by decide +kernel
theorem dX7_readBack_1 : decode cX7_readBack 1 = .ok (.invokestatic 262, 3) := by decide +kernel
theorem dX7_readBack_4 : decode cX7_readBack 4 = .ok (.istore_n 3, 1) := by decide +kernel
theorem dX7_readBack_5 : decode cX7_readBack 5 = .ok (.iload_n 3, 1) := by decide +kernel
theorem dX7_readBack_6 : decode cX7_readBack 6 = .ok (.bipush 10, 2) := by decide +kernel
theorem dX7_readBack_8 : decode cX7_readBack 8 = .ok (.if_icmp .ne 15, 3) := by decide +kernel
theorem dX7_readBack_11 : decode cX7_readBack 11 = .ok (.aload_n 0, 1) := by decide +kernel
theorem dX7_readBack_12 : decode cX7_readBack 12 = .ok (.getfield 25, 3) := by decide +kernel
theorem dX7_readBack_15 : decode cX7_readBack 15 = .ok (.getfield 136, 3) := by decide +kernel
theorem dX7_readBack_18 : decode cX7_readBack 18 = .ok (.iconst 1, 1) := by decide +kernel
theorem dX7_readBack_19 : decode cX7_readBack 19 = .ok (.isub, 1) := by decide +kernel
theorem dX7_readBack_20 : decode cX7_readBack 20 = .ok (.goto 8, 3) := by decide +kernel
theorem dX7_readBack_23 : decode cX7_readBack 23 = .ok (.getstatic 65, 3) := by decide +kernel
theorem dX7_readBack_26 : decode cX7_readBack 26 = .ok (.iload_n 3, 1) := by decide +kernel
theorem dX7_readBack_27 : decode cX7_readBack 27 = .ok (.iaload, 1) := by decide +kernel
theorem dX7_readBack_28 : decode cX7_readBack 28 = .ok (.istore 4, 2) := by decide +kernel
theorem dX7_readBack_30 : decode cX7_readBack 30 = .ok (.iconst 0, 1) := by decide +kernel
theorem dX7_readBack_31 : decode cX7_readBack 31 = .ok (.istore 5, 2) := by decide +kernel
theorem dX7_readBack_33 : decode cX7_readBack 33 = .ok (.iconst 0, 1) := by decide +kernel
theorem dX7_readBack_34 : decode cX7_readBack 34 = .ok (.istore 6, 2) := by decide +kernel
theorem dX7_readBack_36 : decode cX7_readBack 36 = .ok (.iconst (-1), 1) := by decide +kernel
theorem dX7_readBack_37 : decode cX7_readBack 37 = .ok (.istore 7, 2) := by decide +kernel
theorem dX7_readBack_39 : decode cX7_readBack 39 = .ok (.aload_n 0, 1) := by decide +kernel
theorem dX7_readBack_40 : decode cX7_readBack 40 = .ok (.getfield 19, 3) := by decide +kernel
theorem dX7_readBack_43 : decode cX7_readBack 43 = .ok (.aload_n 0, 1) := by decide +kernel
theorem dX7_readBack_44 : decode cX7_readBack 44 = .ok (.getfield 10, 3) := by decide +kernel
theorem dX7_readBack_47 : decode cX7_readBack 47 = .ok (.invokevirtual 214, 3) := by decide +kernel
theorem dX7_readBack_50 : decode cX7_readBack 50 = .ok (.iconst 0, 1) := by decide +kernel
theorem dX7_readBack_51 : decode cX7_readBack 51 = .ok (.istore 8, 2) := by decide +kernel
theorem dX7_readBack_53 : decode cX7_readBack 53 = .ok (.iload 8, 2) := by decide +kernel
theorem dX7_readBack_55 : decode cX7_readBack 55 = .ok (.iload 4, 2) := by decide +kernel
theorem dX7_readBack_57 : decode cX7_readBack 57 = .ok (.if_icmp .gt 62, 3) := by decide +kernel
theorem dX7_readBack_60 : decode cX7_readBack 60 = .ok (.aload_n 0, 1) := by decide +kernel
theorem dX7_readBack_61 : decode cX7_readBack 61 = .ok (.getfield 19, 3) := by decide +kernel
theorem dX7_readBack_64 : decode cX7_readBack 64 = .ok (.iload_n 3, 1) := by decide +kernel
theorem dX7_readBack_65 : decode cX7_readBack 65 = .ok (.iload_n 2, 1) := by decide +kernel
theorem dX7_readBack_66 : decode cX7_readBack 66 = .ok (.bipush 10, 2) := by decide +kernel
theorem dX7_readBack_68 : decode cX7_readBack 68 = .ok (.irem, 1) := by decide +kernel
theorem dX7_readBack_69 : decode cX7_readBack 69 = .ok (.iload 8, 2) := by decide +kernel
theorem dX7_readBack_71 : decode cX7_readBack 71 = .ok (.invokevirtual 73, 3) := by decide +kernel
theorem dX7_readBack_74 : decode cX7_readBack 74 = .ok (.aload_n 0, 1) := by decide +kernel
theorem dX7_readBack_75 : decode cX7_readBack 75 = .ok (.aload_n 0, 1) := by decide +kernel
theorem dX7_readBack_76 : decode cX7_readBack 76 = .ok (.getfield 19, 3) := by decide +kernel
theorem dX7_readBack_79 : decode cX7_readBack 79 = .ok (.iload_n 1, 1) := by decide +kernel
theorem dX7_readBack_80 : decode cX7_readBack 80 = .ok (.invokevirtual 202, 3) := by decide +kernel
theorem dX7_readBack_83 : decode cX7_readBack 83 = .ok (.ifCond .ne 30, 3) := by decide +kernel
theorem dX7_readBack_86 : decode cX7_readBack 86 = .ok (.iload 5, 2) := by decide +kernel
theorem dX7_readBack_88 : decode cX7_readBack 88 = .ok (.iconst 1, 1) := by decide +kernel
theorem dX7_readBack_89 : decode cX7_readBack 89 = .ok (.iload 8, 2) := by decide +kernel
theorem dX7_readBack_91 : decode cX7_readBack 91 = .ok (.ishl, 1) := by decide +kernel
theorem dX7_readBack_92 : decode cX7_readBack 92 = .ok (.ior, 1) := by decide +kernel
theorem dX7_readBack_93 : decode cX7_readBack 93 = .ok (.istore 5, 2) := by decide +kernel
theorem dX7_readBack_95 : decode cX7_readBack 95 = .ok (.iinc 6 1, 3) := by decide +kernel
theorem dX7_readBack_98 : decode cX7_readBack 98 = .ok (.iload 7, 2) := by decide +kernel
theorem dX7_readBack_100 : decode cX7_readBack 100 = .ok (.iconst (-1), 1) := by decide +kernel
theorem dX7_readBack_101 : decode cX7_readBack 101 = .ok (.if_icmp .ne 8, 3) := by decide +kernel
theorem dX7_readBack_104 : decode cX7_readBack 104 = .ok (.iload 8, 2) := by decide +kernel
theorem dX7_readBack_106 : decode cX7_readBack 106 = .ok (.goto 5, 3) := by decide +kernel
theorem dX7_readBack_109 : decode cX7_readBack 109 = .ok (.iload 7, 2) := by decide +kernel
theorem dX7_readBack_111 : decode cX7_readBack 111 = .ok (.istore 7, 2) := by decide +kernel
theorem dX7_readBack_113 : decode cX7_readBack 113 = .ok (.iinc 8 1, 3) := by decide +kernel
theorem dX7_readBack_116 : decode cX7_readBack 116 = .ok (.goto (-63), 3) := by decide +kernel
theorem dX7_readBack_119 : decode cX7_readBack 119 = .ok (.iload_n 3, 1) := by decide +kernel
theorem dX7_readBack_120 : decode cX7_readBack 120 = .ok (.iconst 3, 1) := by decide +kernel
theorem dX7_readBack_121 : decode cX7_readBack 121 = .ok (.if_icmp .eq 6, 3) := by decide +kernel
theorem dX7_readBack_124 : decode cX7_readBack 124 = .ok (.iload 5, 2) := by decide +kernel
theorem dX7_readBack_126 : decode cX7_readBack 126 = .ok (.ireturn, 1) := by decide +kernel
theorem dX7_readBack_127 : decode cX7_readBack 127 = .ok (.iload_n 2, 1) := by decide +kernel
theorem dX7_readBack_128 : decode cX7_readBack 128 = .ok (.bipush 40, 2) := by decide +kernel
theorem dX7_readBack_130 : decode cX7_readBack 130 = .ok (.if_icmp .ge 8, 3) := by decide +kernel
theorem dX7_readBack_133 : decode cX7_readBack 133 = .ok (.iload 6, 2) := by decide +kernel
theorem dX7_readBack_135 : decode cX7_readBack 135 = .ok (.goto 5, 3) := by decide +kernel
theorem dX7_readBack_138 : decode cX7_readBack 138 = .ok (.iload 7, 2) := by decide +kernel
theorem dX7_readBack_140 : decode cX7_readBack 140 = .ok (.ireturn, 1) := by decide +kernel
theorem dX7_itemReadBack_0 : decode cX7_itemReadBack 0 = .ok (.iload_n 0, 1) := by decide +kernel
theorem dX7_itemReadBack_1 : decode cX7_itemReadBack 1 = .ok (.bipush 10, 2) := by decide +kernel
theorem dX7_itemReadBack_3 : decode cX7_itemReadBack 3 = .ok (.idiv, 1) := by decide +kernel
theorem dX7_itemReadBack_4 : decode cX7_itemReadBack 4 = .ok (.tableswitch 44 0 2 #[28, 40, 42], 28) := by decide +kernel
theorem dX7_itemReadBack_32 : decode cX7_itemReadBack 32 = .ok (.iload_n 0, 1) := by decide +kernel
theorem dX7_itemReadBack_33 : decode cX7_itemReadBack 33 = .ok (.iconst 1, 1) := by decide +kernel
theorem dX7_itemReadBack_34 : decode cX7_itemReadBack 34 = .ok (.if_icmp .ne 7, 3) := by decide +kernel
theorem dX7_itemReadBack_37 : decode cX7_itemReadBack 37 = .ok (.iconst 0, 1) := by decide +kernel
theorem dX7_itemReadBack_38 : decode cX7_itemReadBack 38 = .ok (.goto 5, 3) := by decide +kernel
theorem dX7_itemReadBack_41 : decode cX7_itemReadBack 41 = .ok (.bipush 10, 2) := by decide +kernel
theorem dX7_itemReadBack_43 : decode cX7_itemReadBack 43 = .ok (.ireturn, 1) := by decide +kernel
theorem dX7_itemReadBack_44 : decode cX7_itemReadBack 44 = .ok (.iconst 5, 1) := by decide +kernel
theorem dX7_itemReadBack_45 : decode cX7_itemReadBack 45 = .ok (.ireturn, 1) := by decide +kernel
theorem dX7_itemReadBack_46 : decode cX7_itemReadBack 46 = .ok (.iconst 2, 1) := by decide +kernel
theorem dX7_itemReadBack_47 : decode cX7_itemReadBack 47 = .ok (.ireturn, 1) := by decide +kernel
theorem dX7_itemReadBack_48 : decode cX7_itemReadBack 48 = .ok (.iconst 3, 1) := by decide +kernel
theorem dX7_itemReadBack_49 : decode cX7_itemReadBack 49 = .ok (.ireturn, 1) := by decide +kernel
theorem dX7_common_0 : decode cX7_common 0 = .ok (.iload_n 0, 1) := by decide +kernel
theorem dX7_common_1 : decode cX7_common 1 = .ok (.istore_n 2, 1) := by decide +kernel
theorem dX7_common_2 : decode cX7_common 2 = .ok (.iload_n 1, 1) := by decide +kernel
theorem dX7_common_3 : decode cX7_common 3 = .ok (.istore_n 3, 1) := by decide +kernel
theorem dX7_common_4 : decode cX7_common 4 = .ok (.iconst 0, 1) := by decide +kernel
theorem dX7_common_5 : decode cX7_common 5 = .ok (.istore 4, 2) := by decide +kernel
theorem dX7_common_7 : decode cX7_common 7 = .ok (.iload 4, 2) := by decide +kernel
theorem dX7_common_9 : decode cX7_common 9 = .ok (.bipush 100, 2) := by decide +kernel
theorem dX7_common_11 : decode cX7_common 11 = .ok (.if_icmp .ge 23, 3) := by decide +kernel
theorem dX7_common_14 : decode cX7_common 14 = .ok (.iload_n 3, 1) := by decide +kernel
theorem dX7_common_15 : decode cX7_common 15 = .ok (.ifCond .eq 19, 3) := by decide +kernel
theorem dX7_common_18 : decode cX7_common 18 = .ok (.iload_n 2, 1) := by decide +kernel
theorem dX7_common_19 : decode cX7_common 19 = .ok (.iload_n 3, 1) := by decide +kernel
theorem dX7_common_20 : decode cX7_common 20 = .ok (.irem, 1) := by decide +kernel
theorem dX7_common_21 : decode cX7_common 21 = .ok (.istore 5, 2) := by decide +kernel
theorem dX7_common_23 : decode cX7_common 23 = .ok (.iload_n 3, 1) := by decide +kernel
theorem dX7_common_24 : decode cX7_common 24 = .ok (.istore_n 2, 1) := by decide +kernel
theorem dX7_common_25 : decode cX7_common 25 = .ok (.iload 5, 2) := by decide +kernel
theorem dX7_common_27 : decode cX7_common 27 = .ok (.istore_n 3, 1) := by decide +kernel
theorem dX7_common_28 : decode cX7_common 28 = .ok (.iinc 4 1, 3) := by decide +kernel
theorem dX7_common_31 : decode cX7_common 31 = .ok (.goto (-24), 3) := by decide +kernel
theorem dX7_common_34 : decode cX7_common 34 = .ok (.iload_n 2, 1) := by decide +kernel
theorem dX7_common_35 : decode cX7_common 35 = .ok (.ireturn, 1) := by decide +kernel
theorem dL_law_0 : decode cL_law 0 = .ok (.new 7, 3) := by decide +kernel
theorem dL_law_3 : decode cL_law 3 = .ok (.dup, 1) := by decide +kernel
theorem dL_law_4 : decode cL_law 4 = .ok (.invokespecial 9, 3) := by decide +kernel
theorem dL_law_7 : decode cL_law 7 = .ok (.astore_n 1, 1) := by decide +kernel
theorem dL_law_8 : decode cL_law 8 = .ok (.new 10, 3) := by decide +kernel
theorem dL_law_11 : decode cL_law 11 = .ok (.dup, 1) := by decide +kernel
theorem dL_law_12 : decode cL_law 12 = .ok (.invokespecial 12, 3) := by decide +kernel
theorem dL_law_15 : decode cL_law 15 = .ok (.astore_n 2, 1) := by decide +kernel
theorem dL_law_16 : decode cL_law 16 = .ok (.iconst 0, 1) := by decide +kernel
theorem dL_law_17 : decode cL_law 17 = .ok (.istore_n 3, 1) := by decide +kernel
theorem dL_law_18 : decode cL_law 18 = .ok (.iload_n 3, 1) := by decide +kernel
theorem dL_law_19 : decode cL_law 19 = .ok (.aload_n 0, 1) := by decide +kernel
theorem dL_law_20 : decode cL_law 20 = .ok (.arraylength, 1) := by decide +kernel
theorem dL_law_21 : decode cL_law 21 = .ok (.bipush 6, 2) := by decide +kernel
theorem dL_law_23 : decode cL_law 23 = .ok (.isub, 1) := by decide +kernel
theorem dL_law_24 : decode cL_law 24 = .ok (.if_icmp .gt 957, 3) := by decide +kernel
theorem dL_law_27 : decode cL_law 27 = .ok (.aload_n 0, 1) := by decide +kernel
theorem dL_law_28 : decode cL_law 28 = .ok (.iload_n 3, 1) := by decide +kernel
theorem dL_law_29 : decode cL_law 29 = .ok (.iaload, 1) := by decide +kernel
theorem dL_law_30 : decode cL_law 30 = .ok (.bipush 31, 2) := by decide +kernel
theorem dL_law_32 : decode cL_law 32 = .ok (.iand, 1) := by decide +kernel
theorem dL_law_33 : decode cL_law 33 = .ok (.tableswitch 942 0 27 #[127, 170, 203, 236, 259, 282, 295, 318, 341, 374, 397, 420, 443, 466, 489, 512, 535, 568, 591, 614, 658, 671, 684, 707, 750, 793, 856, 909], 127) := by decide +kernel
theorem dL_law_160 : decode cL_law 160 = .ok (.aload_n 1, 1) := by decide +kernel
theorem dL_law_161 : decode cL_law 161 = .ok (.aload_n 0, 1) := by decide +kernel
theorem dL_law_162 : decode cL_law 162 = .ok (.iload_n 3, 1) := by decide +kernel
theorem dL_law_163 : decode cL_law 163 = .ok (.iconst 1, 1) := by decide +kernel
theorem dL_law_164 : decode cL_law 164 = .ok (.iadd, 1) := by decide +kernel
theorem dL_law_165 : decode cL_law 165 = .ok (.iaload, 1) := by decide +kernel
theorem dL_law_166 : decode cL_law 166 = .ok (.aload_n 0, 1) := by decide +kernel
theorem dL_law_167 : decode cL_law 167 = .ok (.iload_n 3, 1) := by decide +kernel
theorem dL_law_168 : decode cL_law 168 = .ok (.iconst 2, 1) := by decide +kernel
theorem dL_law_169 : decode cL_law 169 = .ok (.iadd, 1) := by decide +kernel
theorem dL_law_170 : decode cL_law 170 = .ok (.iaload, 1) := by decide +kernel
theorem dL_law_171 : decode cL_law 171 = .ok (.aload_n 0, 1) := by decide +kernel
theorem dL_law_172 : decode cL_law 172 = .ok (.iload_n 3, 1) := by decide +kernel
theorem dL_law_173 : decode cL_law 173 = .ok (.iconst 3, 1) := by decide +kernel
theorem dL_law_174 : decode cL_law 174 = .ok (.iadd, 1) := by decide +kernel
theorem dL_law_175 : decode cL_law 175 = .ok (.iaload, 1) := by decide +kernel
theorem dL_law_176 : decode cL_law 176 = .ok (.invokevirtual 13, 3) := by decide +kernel
theorem dL_law_179 : decode cL_law 179 = .ok (.aload_n 2, 1) := by decide +kernel
theorem dL_law_180 : decode cL_law 180 = .ok (.aload_n 0, 1) := by decide +kernel
theorem dL_law_181 : decode cL_law 181 = .ok (.iload_n 3, 1) := by decide +kernel
theorem dL_law_182 : decode cL_law 182 = .ok (.iconst 1, 1) := by decide +kernel
theorem dL_law_183 : decode cL_law 183 = .ok (.iadd, 1) := by decide +kernel
theorem dL_law_184 : decode cL_law 184 = .ok (.iaload, 1) := by decide +kernel
theorem dL_law_185 : decode cL_law 185 = .ok (.aload_n 0, 1) := by decide +kernel
theorem dL_law_186 : decode cL_law 186 = .ok (.iload_n 3, 1) := by decide +kernel
theorem dL_law_187 : decode cL_law 187 = .ok (.iconst 2, 1) := by decide +kernel
theorem dL_law_188 : decode cL_law 188 = .ok (.iadd, 1) := by decide +kernel
theorem dL_law_189 : decode cL_law 189 = .ok (.iaload, 1) := by decide +kernel
theorem dL_law_190 : decode cL_law 190 = .ok (.aload_n 0, 1) := by decide +kernel
theorem dL_law_191 : decode cL_law 191 = .ok (.iload_n 3, 1) := by decide +kernel
theorem dL_law_192 : decode cL_law 192 = .ok (.iconst 3, 1) := by decide +kernel
theorem dL_law_193 : decode cL_law 193 = .ok (.iadd, 1) := by decide +kernel
theorem dL_law_194 : decode cL_law 194 = .ok (.iaload, 1) := by decide +kernel
theorem dL_law_195 : decode cL_law 195 = .ok (.invokevirtual 17, 3) := by decide +kernel
theorem dL_law_198 : decode cL_law 198 = .ok (.if_icmp .eq 777, 3) := by decide +kernel
theorem dL_law_201 : decode cL_law 201 = .ok (.iconst 0, 1) := by decide +kernel
theorem dL_law_202 : decode cL_law 202 = .ok (.ireturn, 1) := by decide +kernel
theorem dL_law_203 : decode cL_law 203 = .ok (.aload_n 1, 1) := by decide +kernel
theorem dL_law_204 : decode cL_law 204 = .ok (.aload_n 0, 1) := by decide +kernel
theorem dL_law_205 : decode cL_law 205 = .ok (.iload_n 3, 1) := by decide +kernel
theorem dL_law_206 : decode cL_law 206 = .ok (.iconst 1, 1) := by decide +kernel
theorem dL_law_207 : decode cL_law 207 = .ok (.iadd, 1) := by decide +kernel
theorem dL_law_208 : decode cL_law 208 = .ok (.iaload, 1) := by decide +kernel
theorem dL_law_209 : decode cL_law 209 = .ok (.aload_n 0, 1) := by decide +kernel
theorem dL_law_210 : decode cL_law 210 = .ok (.iload_n 3, 1) := by decide +kernel
theorem dL_law_211 : decode cL_law 211 = .ok (.iconst 2, 1) := by decide +kernel
theorem dL_law_212 : decode cL_law 212 = .ok (.iadd, 1) := by decide +kernel
theorem dL_law_213 : decode cL_law 213 = .ok (.iaload, 1) := by decide +kernel
theorem dL_law_214 : decode cL_law 214 = .ok (.invokevirtual 18, 3) := by decide +kernel
theorem dL_law_217 : decode cL_law 217 = .ok (.aload_n 2, 1) := by decide +kernel
theorem dL_law_218 : decode cL_law 218 = .ok (.aload_n 0, 1) := by decide +kernel
theorem dL_law_219 : decode cL_law 219 = .ok (.iload_n 3, 1) := by decide +kernel
theorem dL_law_220 : decode cL_law 220 = .ok (.iconst 1, 1) := by decide +kernel
theorem dL_law_221 : decode cL_law 221 = .ok (.iadd, 1) := by decide +kernel
theorem dL_law_222 : decode cL_law 222 = .ok (.iaload, 1) := by decide +kernel
theorem dL_law_223 : decode cL_law 223 = .ok (.aload_n 0, 1) := by decide +kernel
theorem dL_law_224 : decode cL_law 224 = .ok (.iload_n 3, 1) := by decide +kernel
theorem dL_law_225 : decode cL_law 225 = .ok (.iconst 2, 1) := by decide +kernel
theorem dL_law_226 : decode cL_law 226 = .ok (.iadd, 1) := by decide +kernel
theorem dL_law_227 : decode cL_law 227 = .ok (.iaload, 1) := by decide +kernel
theorem dL_law_228 : decode cL_law 228 = .ok (.invokevirtual 22, 3) := by decide +kernel
theorem dL_law_231 : decode cL_law 231 = .ok (.if_icmp .eq 744, 3) := by decide +kernel
theorem dL_law_234 : decode cL_law 234 = .ok (.iconst 0, 1) := by decide +kernel
theorem dL_law_235 : decode cL_law 235 = .ok (.ireturn, 1) := by decide +kernel
theorem dL_law_236 : decode cL_law 236 = .ok (.aload_n 1, 1) := by decide +kernel
theorem dL_law_237 : decode cL_law 237 = .ok (.aload_n 0, 1) := by decide +kernel
theorem dL_law_238 : decode cL_law 238 = .ok (.iload_n 3, 1) := by decide +kernel
theorem dL_law_239 : decode cL_law 239 = .ok (.iconst 1, 1) := by decide +kernel
theorem dL_law_240 : decode cL_law 240 = .ok (.iadd, 1) := by decide +kernel
theorem dL_law_241 : decode cL_law 241 = .ok (.iaload, 1) := by decide +kernel
theorem dL_law_242 : decode cL_law 242 = .ok (.aload_n 0, 1) := by decide +kernel
theorem dL_law_243 : decode cL_law 243 = .ok (.iload_n 3, 1) := by decide +kernel
theorem dL_law_244 : decode cL_law 244 = .ok (.iconst 2, 1) := by decide +kernel
theorem dL_law_245 : decode cL_law 245 = .ok (.iadd, 1) := by decide +kernel
theorem dL_law_246 : decode cL_law 246 = .ok (.iaload, 1) := by decide +kernel
theorem dL_law_247 : decode cL_law 247 = .ok (.invokevirtual 23, 3) := by decide +kernel
theorem dL_law_250 : decode cL_law 250 = .ok (.aload_n 2, 1) := by decide +kernel
theorem dL_law_251 : decode cL_law 251 = .ok (.aload_n 0, 1) := by decide +kernel
theorem dL_law_252 : decode cL_law 252 = .ok (.iload_n 3, 1) := by decide +kernel
theorem dL_law_253 : decode cL_law 253 = .ok (.iconst 1, 1) := by decide +kernel
theorem dL_law_254 : decode cL_law 254 = .ok (.iadd, 1) := by decide +kernel
theorem dL_law_255 : decode cL_law 255 = .ok (.iaload, 1) := by decide +kernel
theorem dL_law_256 : decode cL_law 256 = .ok (.aload_n 0, 1) := by decide +kernel
theorem dL_law_257 : decode cL_law 257 = .ok (.iload_n 3, 1) := by decide +kernel
theorem dL_law_258 : decode cL_law 258 = .ok (.iconst 2, 1) := by decide +kernel
theorem dL_law_259 : decode cL_law 259 = .ok (.iadd, 1) := by decide +kernel
theorem dL_law_260 : decode cL_law 260 = .ok (.iaload, 1) := by decide +kernel
theorem dL_law_261 : decode cL_law 261 = .ok (.invokevirtual 26, 3) := by decide +kernel
theorem dL_law_264 : decode cL_law 264 = .ok (.if_icmp .eq 711, 3) := by decide +kernel
theorem dL_law_267 : decode cL_law 267 = .ok (.iconst 0, 1) := by decide +kernel
theorem dL_law_268 : decode cL_law 268 = .ok (.ireturn, 1) := by decide +kernel
theorem dL_law_269 : decode cL_law 269 = .ok (.aload_n 1, 1) := by decide +kernel
theorem dL_law_270 : decode cL_law 270 = .ok (.aload_n 0, 1) := by decide +kernel
theorem dL_law_271 : decode cL_law 271 = .ok (.iload_n 3, 1) := by decide +kernel
theorem dL_law_272 : decode cL_law 272 = .ok (.iconst 1, 1) := by decide +kernel
theorem dL_law_273 : decode cL_law 273 = .ok (.iadd, 1) := by decide +kernel
theorem dL_law_274 : decode cL_law 274 = .ok (.iaload, 1) := by decide +kernel
theorem dL_law_275 : decode cL_law 275 = .ok (.invokevirtual 27, 3) := by decide +kernel
theorem dL_law_278 : decode cL_law 278 = .ok (.aload_n 2, 1) := by decide +kernel
theorem dL_law_279 : decode cL_law 279 = .ok (.aload_n 0, 1) := by decide +kernel
theorem dL_law_280 : decode cL_law 280 = .ok (.iload_n 3, 1) := by decide +kernel
theorem dL_law_281 : decode cL_law 281 = .ok (.iconst 1, 1) := by decide +kernel
theorem dL_law_282 : decode cL_law 282 = .ok (.iadd, 1) := by decide +kernel
theorem dL_law_283 : decode cL_law 283 = .ok (.iaload, 1) := by decide +kernel
theorem dL_law_284 : decode cL_law 284 = .ok (.invokevirtual 31, 3) := by decide +kernel
theorem dL_law_287 : decode cL_law 287 = .ok (.if_icmp .eq 688, 3) := by decide +kernel
theorem dL_law_290 : decode cL_law 290 = .ok (.iconst 0, 1) := by decide +kernel
theorem dL_law_291 : decode cL_law 291 = .ok (.ireturn, 1) := by decide +kernel
theorem dL_law_292 : decode cL_law 292 = .ok (.aload_n 1, 1) := by decide +kernel
theorem dL_law_293 : decode cL_law 293 = .ok (.aload_n 0, 1) := by decide +kernel
theorem dL_law_294 : decode cL_law 294 = .ok (.iload_n 3, 1) := by decide +kernel
theorem dL_law_295 : decode cL_law 295 = .ok (.iconst 1, 1) := by decide +kernel
theorem dL_law_296 : decode cL_law 296 = .ok (.iadd, 1) := by decide +kernel
theorem dL_law_297 : decode cL_law 297 = .ok (.iaload, 1) := by decide +kernel
theorem dL_law_298 : decode cL_law 298 = .ok (.invokevirtual 32, 3) := by decide +kernel
theorem dL_law_301 : decode cL_law 301 = .ok (.aload_n 2, 1) := by decide +kernel
theorem dL_law_302 : decode cL_law 302 = .ok (.aload_n 0, 1) := by decide +kernel
theorem dL_law_303 : decode cL_law 303 = .ok (.iload_n 3, 1) := by decide +kernel
theorem dL_law_304 : decode cL_law 304 = .ok (.iconst 1, 1) := by decide +kernel
theorem dL_law_305 : decode cL_law 305 = .ok (.iadd, 1) := by decide +kernel
theorem dL_law_306 : decode cL_law 306 = .ok (.iaload, 1) := by decide +kernel
theorem dL_law_307 : decode cL_law 307 = .ok (.invokevirtual 35, 3) := by decide +kernel
theorem dL_law_310 : decode cL_law 310 = .ok (.if_icmp .eq 665, 3) := by decide +kernel
theorem dL_law_313 : decode cL_law 313 = .ok (.iconst 0, 1) := by decide +kernel
theorem dL_law_314 : decode cL_law 314 = .ok (.ireturn, 1) := by decide +kernel
theorem dL_law_315 : decode cL_law 315 = .ok (.aload_n 1, 1) := by decide +kernel
theorem dL_law_316 : decode cL_law 316 = .ok (.invokevirtual 36, 3) := by decide +kernel
theorem dL_law_319 : decode cL_law 319 = .ok (.aload_n 2, 1) := by decide +kernel
theorem dL_law_320 : decode cL_law 320 = .ok (.invokevirtual 40, 3) := by decide +kernel
theorem dL_law_323 : decode cL_law 323 = .ok (.if_icmp .eq 652, 3) := by decide +kernel
theorem dL_law_326 : decode cL_law 326 = .ok (.iconst 0, 1) := by decide +kernel
theorem dL_law_327 : decode cL_law 327 = .ok (.ireturn, 1) := by decide +kernel
theorem dL_law_328 : decode cL_law 328 = .ok (.aload_n 1, 1) := by decide +kernel
theorem dL_law_329 : decode cL_law 329 = .ok (.aload_n 0, 1) := by decide +kernel
theorem dL_law_330 : decode cL_law 330 = .ok (.iload_n 3, 1) := by decide +kernel
theorem dL_law_331 : decode cL_law 331 = .ok (.iconst 1, 1) := by decide +kernel
theorem dL_law_332 : decode cL_law 332 = .ok (.iadd, 1) := by decide +kernel
theorem dL_law_333 : decode cL_law 333 = .ok (.iaload, 1) := by decide +kernel
theorem dL_law_334 : decode cL_law 334 = .ok (.invokevirtual 41, 3) := by decide +kernel
theorem dL_law_337 : decode cL_law 337 = .ok (.aload_n 2, 1) := by decide +kernel
theorem dL_law_338 : decode cL_law 338 = .ok (.aload_n 0, 1) := by decide +kernel
theorem dL_law_339 : decode cL_law 339 = .ok (.iload_n 3, 1) := by decide +kernel
theorem dL_law_340 : decode cL_law 340 = .ok (.iconst 1, 1) := by decide +kernel
theorem dL_law_341 : decode cL_law 341 = .ok (.iadd, 1) := by decide +kernel
theorem dL_law_342 : decode cL_law 342 = .ok (.iaload, 1) := by decide +kernel
theorem dL_law_343 : decode cL_law 343 = .ok (.invokevirtual 44, 3) := by decide +kernel
theorem dL_law_346 : decode cL_law 346 = .ok (.if_icmp .eq 629, 3) := by decide +kernel
theorem dL_law_349 : decode cL_law 349 = .ok (.iconst 0, 1) := by decide +kernel
theorem dL_law_350 : decode cL_law 350 = .ok (.ireturn, 1) := by decide +kernel
theorem dL_law_351 : decode cL_law 351 = .ok (.aload_n 1, 1) := by decide +kernel
theorem dL_law_352 : decode cL_law 352 = .ok (.aload_n 0, 1) := by decide +kernel
theorem dL_law_353 : decode cL_law 353 = .ok (.iload_n 3, 1) := by decide +kernel
theorem dL_law_354 : decode cL_law 354 = .ok (.iconst 1, 1) := by decide +kernel
theorem dL_law_355 : decode cL_law 355 = .ok (.iadd, 1) := by decide +kernel
theorem dL_law_356 : decode cL_law 356 = .ok (.iaload, 1) := by decide +kernel
theorem dL_law_357 : decode cL_law 357 = .ok (.invokevirtual 45, 3) := by decide +kernel
theorem dL_law_360 : decode cL_law 360 = .ok (.aload_n 2, 1) := by decide +kernel
theorem dL_law_361 : decode cL_law 361 = .ok (.aload_n 0, 1) := by decide +kernel
theorem dL_law_362 : decode cL_law 362 = .ok (.iload_n 3, 1) := by decide +kernel
theorem dL_law_363 : decode cL_law 363 = .ok (.iconst 1, 1) := by decide +kernel
theorem dL_law_364 : decode cL_law 364 = .ok (.iadd, 1) := by decide +kernel
theorem dL_law_365 : decode cL_law 365 = .ok (.iaload, 1) := by decide +kernel
theorem dL_law_366 : decode cL_law 366 = .ok (.invokevirtual 48, 3) := by decide +kernel
theorem dL_law_369 : decode cL_law 369 = .ok (.if_icmp .eq 606, 3) := by decide +kernel
theorem dL_law_372 : decode cL_law 372 = .ok (.iconst 0, 1) := by decide +kernel
theorem dL_law_373 : decode cL_law 373 = .ok (.ireturn, 1) := by decide +kernel
theorem dL_law_374 : decode cL_law 374 = .ok (.aload_n 1, 1) := by decide +kernel
theorem dL_law_375 : decode cL_law 375 = .ok (.aload_n 0, 1) := by decide +kernel
theorem dL_law_376 : decode cL_law 376 = .ok (.iload_n 3, 1) := by decide +kernel
theorem dL_law_377 : decode cL_law 377 = .ok (.iconst 1, 1) := by decide +kernel
theorem dL_law_378 : decode cL_law 378 = .ok (.iadd, 1) := by decide +kernel
theorem dL_law_379 : decode cL_law 379 = .ok (.iaload, 1) := by decide +kernel
theorem dL_law_380 : decode cL_law 380 = .ok (.aload_n 0, 1) := by decide +kernel
theorem dL_law_381 : decode cL_law 381 = .ok (.iload_n 3, 1) := by decide +kernel
theorem dL_law_382 : decode cL_law 382 = .ok (.iconst 2, 1) := by decide +kernel
theorem dL_law_383 : decode cL_law 383 = .ok (.iadd, 1) := by decide +kernel
theorem dL_law_384 : decode cL_law 384 = .ok (.iaload, 1) := by decide +kernel
theorem dL_law_385 : decode cL_law 385 = .ok (.invokevirtual 49, 3) := by decide +kernel
theorem dL_law_388 : decode cL_law 388 = .ok (.aload_n 2, 1) := by decide +kernel
theorem dL_law_389 : decode cL_law 389 = .ok (.aload_n 0, 1) := by decide +kernel
theorem dL_law_390 : decode cL_law 390 = .ok (.iload_n 3, 1) := by decide +kernel
theorem dL_law_391 : decode cL_law 391 = .ok (.iconst 1, 1) := by decide +kernel
theorem dL_law_392 : decode cL_law 392 = .ok (.iadd, 1) := by decide +kernel
theorem dL_law_393 : decode cL_law 393 = .ok (.iaload, 1) := by decide +kernel
theorem dL_law_394 : decode cL_law 394 = .ok (.aload_n 0, 1) := by decide +kernel
theorem dL_law_395 : decode cL_law 395 = .ok (.iload_n 3, 1) := by decide +kernel
theorem dL_law_396 : decode cL_law 396 = .ok (.iconst 2, 1) := by decide +kernel
theorem dL_law_397 : decode cL_law 397 = .ok (.iadd, 1) := by decide +kernel
theorem dL_law_398 : decode cL_law 398 = .ok (.iaload, 1) := by decide +kernel
theorem dL_law_399 : decode cL_law 399 = .ok (.invokevirtual 52, 3) := by decide +kernel
theorem dL_law_402 : decode cL_law 402 = .ok (.if_icmp .eq 573, 3) := by decide +kernel
theorem dL_law_405 : decode cL_law 405 = .ok (.iconst 0, 1) := by decide +kernel
theorem dL_law_406 : decode cL_law 406 = .ok (.ireturn, 1) := by decide +kernel
theorem dL_law_407 : decode cL_law 407 = .ok (.aload_n 1, 1) := by decide +kernel
theorem dL_law_408 : decode cL_law 408 = .ok (.aload_n 0, 1) := by decide +kernel
theorem dL_law_409 : decode cL_law 409 = .ok (.iload_n 3, 1) := by decide +kernel
theorem dL_law_410 : decode cL_law 410 = .ok (.iconst 1, 1) := by decide +kernel
theorem dL_law_411 : decode cL_law 411 = .ok (.iadd, 1) := by decide +kernel
theorem dL_law_412 : decode cL_law 412 = .ok (.iaload, 1) := by decide +kernel
theorem dL_law_413 : decode cL_law 413 = .ok (.invokevirtual 53, 3) := by decide +kernel
theorem dL_law_416 : decode cL_law 416 = .ok (.aload_n 2, 1) := by decide +kernel
theorem dL_law_417 : decode cL_law 417 = .ok (.aload_n 0, 1) := by decide +kernel
theorem dL_law_418 : decode cL_law 418 = .ok (.iload_n 3, 1) := by decide +kernel
theorem dL_law_419 : decode cL_law 419 = .ok (.iconst 1, 1) := by decide +kernel
theorem dL_law_420 : decode cL_law 420 = .ok (.iadd, 1) := by decide +kernel
theorem dL_law_421 : decode cL_law 421 = .ok (.iaload, 1) := by decide +kernel
theorem dL_law_422 : decode cL_law 422 = .ok (.invokevirtual 56, 3) := by decide +kernel
theorem dL_law_425 : decode cL_law 425 = .ok (.if_icmp .eq 550, 3) := by decide +kernel
theorem dL_law_428 : decode cL_law 428 = .ok (.iconst 0, 1) := by decide +kernel
theorem dL_law_429 : decode cL_law 429 = .ok (.ireturn, 1) := by decide +kernel
theorem dL_law_430 : decode cL_law 430 = .ok (.aload_n 1, 1) := by decide +kernel
theorem dL_law_431 : decode cL_law 431 = .ok (.aload_n 0, 1) := by decide +kernel
theorem dL_law_432 : decode cL_law 432 = .ok (.iload_n 3, 1) := by decide +kernel
theorem dL_law_433 : decode cL_law 433 = .ok (.iconst 1, 1) := by decide +kernel
theorem dL_law_434 : decode cL_law 434 = .ok (.iadd, 1) := by decide +kernel
theorem dL_law_435 : decode cL_law 435 = .ok (.iaload, 1) := by decide +kernel
theorem dL_law_436 : decode cL_law 436 = .ok (.invokevirtual 57, 3) := by decide +kernel
theorem dL_law_439 : decode cL_law 439 = .ok (.aload_n 2, 1) := by decide +kernel
theorem dL_law_440 : decode cL_law 440 = .ok (.aload_n 0, 1) := by decide +kernel
theorem dL_law_441 : decode cL_law 441 = .ok (.iload_n 3, 1) := by decide +kernel
theorem dL_law_442 : decode cL_law 442 = .ok (.iconst 1, 1) := by decide +kernel
theorem dL_law_443 : decode cL_law 443 = .ok (.iadd, 1) := by decide +kernel
theorem dL_law_444 : decode cL_law 444 = .ok (.iaload, 1) := by decide +kernel
theorem dL_law_445 : decode cL_law 445 = .ok (.invokevirtual 60, 3) := by decide +kernel
theorem dL_law_448 : decode cL_law 448 = .ok (.if_icmp .eq 527, 3) := by decide +kernel
theorem dL_law_451 : decode cL_law 451 = .ok (.iconst 0, 1) := by decide +kernel
theorem dL_law_452 : decode cL_law 452 = .ok (.ireturn, 1) := by decide +kernel
theorem dL_law_453 : decode cL_law 453 = .ok (.aload_n 1, 1) := by decide +kernel
theorem dL_law_454 : decode cL_law 454 = .ok (.aload_n 0, 1) := by decide +kernel
theorem dL_law_455 : decode cL_law 455 = .ok (.iload_n 3, 1) := by decide +kernel
theorem dL_law_456 : decode cL_law 456 = .ok (.iconst 1, 1) := by decide +kernel
theorem dL_law_457 : decode cL_law 457 = .ok (.iadd, 1) := by decide +kernel
theorem dL_law_458 : decode cL_law 458 = .ok (.iaload, 1) := by decide +kernel
theorem dL_law_459 : decode cL_law 459 = .ok (.invokevirtual 61, 3) := by decide +kernel
theorem dL_law_462 : decode cL_law 462 = .ok (.aload_n 2, 1) := by decide +kernel
theorem dL_law_463 : decode cL_law 463 = .ok (.aload_n 0, 1) := by decide +kernel
theorem dL_law_464 : decode cL_law 464 = .ok (.iload_n 3, 1) := by decide +kernel
theorem dL_law_465 : decode cL_law 465 = .ok (.iconst 1, 1) := by decide +kernel
theorem dL_law_466 : decode cL_law 466 = .ok (.iadd, 1) := by decide +kernel
theorem dL_law_467 : decode cL_law 467 = .ok (.iaload, 1) := by decide +kernel
theorem dL_law_468 : decode cL_law 468 = .ok (.invokevirtual 64, 3) := by decide +kernel
theorem dL_law_471 : decode cL_law 471 = .ok (.if_icmp .eq 504, 3) := by decide +kernel
theorem dL_law_474 : decode cL_law 474 = .ok (.iconst 0, 1) := by decide +kernel
theorem dL_law_475 : decode cL_law 475 = .ok (.ireturn, 1) := by decide +kernel
theorem dL_law_476 : decode cL_law 476 = .ok (.aload_n 1, 1) := by decide +kernel
theorem dL_law_477 : decode cL_law 477 = .ok (.aload_n 0, 1) := by decide +kernel
theorem dL_law_478 : decode cL_law 478 = .ok (.iload_n 3, 1) := by decide +kernel
theorem dL_law_479 : decode cL_law 479 = .ok (.iconst 1, 1) := by decide +kernel
theorem dL_law_480 : decode cL_law 480 = .ok (.iadd, 1) := by decide +kernel
theorem dL_law_481 : decode cL_law 481 = .ok (.iaload, 1) := by decide +kernel
theorem dL_law_482 : decode cL_law 482 = .ok (.invokevirtual 65, 3) := by decide +kernel
theorem dL_law_485 : decode cL_law 485 = .ok (.aload_n 2, 1) := by decide +kernel
theorem dL_law_486 : decode cL_law 486 = .ok (.aload_n 0, 1) := by decide +kernel
theorem dL_law_487 : decode cL_law 487 = .ok (.iload_n 3, 1) := by decide +kernel
theorem dL_law_488 : decode cL_law 488 = .ok (.iconst 1, 1) := by decide +kernel
theorem dL_law_489 : decode cL_law 489 = .ok (.iadd, 1) := by decide +kernel
theorem dL_law_490 : decode cL_law 490 = .ok (.iaload, 1) := by decide +kernel
theorem dL_law_491 : decode cL_law 491 = .ok (.invokevirtual 68, 3) := by decide +kernel
theorem dL_law_494 : decode cL_law 494 = .ok (.if_icmp .eq 481, 3) := by decide +kernel
theorem dL_law_497 : decode cL_law 497 = .ok (.iconst 0, 1) := by decide +kernel
theorem dL_law_498 : decode cL_law 498 = .ok (.ireturn, 1) := by decide +kernel
theorem dL_law_499 : decode cL_law 499 = .ok (.aload_n 1, 1) := by decide +kernel
theorem dL_law_500 : decode cL_law 500 = .ok (.aload_n 0, 1) := by decide +kernel
theorem dL_law_501 : decode cL_law 501 = .ok (.iload_n 3, 1) := by decide +kernel
theorem dL_law_502 : decode cL_law 502 = .ok (.iconst 1, 1) := by decide +kernel
theorem dL_law_503 : decode cL_law 503 = .ok (.iadd, 1) := by decide +kernel
theorem dL_law_504 : decode cL_law 504 = .ok (.iaload, 1) := by decide +kernel
theorem dL_law_505 : decode cL_law 505 = .ok (.invokevirtual 69, 3) := by decide +kernel
theorem dL_law_508 : decode cL_law 508 = .ok (.aload_n 2, 1) := by decide +kernel
theorem dL_law_509 : decode cL_law 509 = .ok (.aload_n 0, 1) := by decide +kernel
theorem dL_law_510 : decode cL_law 510 = .ok (.iload_n 3, 1) := by decide +kernel
theorem dL_law_511 : decode cL_law 511 = .ok (.iconst 1, 1) := by decide +kernel
theorem dL_law_512 : decode cL_law 512 = .ok (.iadd, 1) := by decide +kernel
theorem dL_law_513 : decode cL_law 513 = .ok (.iaload, 1) := by decide +kernel
theorem dL_law_514 : decode cL_law 514 = .ok (.invokevirtual 72, 3) := by decide +kernel
theorem dL_law_517 : decode cL_law 517 = .ok (.if_icmp .eq 458, 3) := by decide +kernel
theorem dL_law_520 : decode cL_law 520 = .ok (.iconst 0, 1) := by decide +kernel
theorem dL_law_521 : decode cL_law 521 = .ok (.ireturn, 1) := by decide +kernel
theorem dL_law_522 : decode cL_law 522 = .ok (.aload_n 1, 1) := by decide +kernel
theorem dL_law_523 : decode cL_law 523 = .ok (.aload_n 0, 1) := by decide +kernel
theorem dL_law_524 : decode cL_law 524 = .ok (.iload_n 3, 1) := by decide +kernel
theorem dL_law_525 : decode cL_law 525 = .ok (.iconst 1, 1) := by decide +kernel
theorem dL_law_526 : decode cL_law 526 = .ok (.iadd, 1) := by decide +kernel
theorem dL_law_527 : decode cL_law 527 = .ok (.iaload, 1) := by decide +kernel
theorem dL_law_528 : decode cL_law 528 = .ok (.invokevirtual 73, 3) := by decide +kernel
theorem dL_law_531 : decode cL_law 531 = .ok (.aload_n 2, 1) := by decide +kernel
theorem dL_law_532 : decode cL_law 532 = .ok (.aload_n 0, 1) := by decide +kernel
theorem dL_law_533 : decode cL_law 533 = .ok (.iload_n 3, 1) := by decide +kernel
theorem dL_law_534 : decode cL_law 534 = .ok (.iconst 1, 1) := by decide +kernel
theorem dL_law_535 : decode cL_law 535 = .ok (.iadd, 1) := by decide +kernel
theorem dL_law_536 : decode cL_law 536 = .ok (.iaload, 1) := by decide +kernel
theorem dL_law_537 : decode cL_law 537 = .ok (.invokevirtual 76, 3) := by decide +kernel
theorem dL_law_540 : decode cL_law 540 = .ok (.if_icmp .eq 435, 3) := by decide +kernel
theorem dL_law_543 : decode cL_law 543 = .ok (.iconst 0, 1) := by decide +kernel
theorem dL_law_544 : decode cL_law 544 = .ok (.ireturn, 1) := by decide +kernel
theorem dL_law_545 : decode cL_law 545 = .ok (.aload_n 1, 1) := by decide +kernel
theorem dL_law_546 : decode cL_law 546 = .ok (.aload_n 0, 1) := by decide +kernel
theorem dL_law_547 : decode cL_law 547 = .ok (.iload_n 3, 1) := by decide +kernel
theorem dL_law_548 : decode cL_law 548 = .ok (.iconst 1, 1) := by decide +kernel
theorem dL_law_549 : decode cL_law 549 = .ok (.iadd, 1) := by decide +kernel
theorem dL_law_550 : decode cL_law 550 = .ok (.iaload, 1) := by decide +kernel
theorem dL_law_551 : decode cL_law 551 = .ok (.invokevirtual 77, 3) := by decide +kernel
theorem dL_law_554 : decode cL_law 554 = .ok (.aload_n 2, 1) := by decide +kernel
theorem dL_law_555 : decode cL_law 555 = .ok (.aload_n 0, 1) := by decide +kernel
theorem dL_law_556 : decode cL_law 556 = .ok (.iload_n 3, 1) := by decide +kernel
theorem dL_law_557 : decode cL_law 557 = .ok (.iconst 1, 1) := by decide +kernel
theorem dL_law_558 : decode cL_law 558 = .ok (.iadd, 1) := by decide +kernel
theorem dL_law_559 : decode cL_law 559 = .ok (.iaload, 1) := by decide +kernel
theorem dL_law_560 : decode cL_law 560 = .ok (.invokevirtual 80, 3) := by decide +kernel
theorem dL_law_563 : decode cL_law 563 = .ok (.if_icmp .eq 412, 3) := by decide +kernel
theorem dL_law_566 : decode cL_law 566 = .ok (.iconst 0, 1) := by decide +kernel
theorem dL_law_567 : decode cL_law 567 = .ok (.ireturn, 1) := by decide +kernel
theorem dL_law_568 : decode cL_law 568 = .ok (.aload_n 1, 1) := by decide +kernel
theorem dL_law_569 : decode cL_law 569 = .ok (.aload_n 0, 1) := by decide +kernel
theorem dL_law_570 : decode cL_law 570 = .ok (.iload_n 3, 1) := by decide +kernel
theorem dL_law_571 : decode cL_law 571 = .ok (.iconst 1, 1) := by decide +kernel
theorem dL_law_572 : decode cL_law 572 = .ok (.iadd, 1) := by decide +kernel
theorem dL_law_573 : decode cL_law 573 = .ok (.iaload, 1) := by decide +kernel
theorem dL_law_574 : decode cL_law 574 = .ok (.aload_n 0, 1) := by decide +kernel
theorem dL_law_575 : decode cL_law 575 = .ok (.iload_n 3, 1) := by decide +kernel
theorem dL_law_576 : decode cL_law 576 = .ok (.iconst 2, 1) := by decide +kernel
theorem dL_law_577 : decode cL_law 577 = .ok (.iadd, 1) := by decide +kernel
theorem dL_law_578 : decode cL_law 578 = .ok (.iaload, 1) := by decide +kernel
theorem dL_law_579 : decode cL_law 579 = .ok (.invokevirtual 81, 3) := by decide +kernel
theorem dL_law_582 : decode cL_law 582 = .ok (.aload_n 2, 1) := by decide +kernel
theorem dL_law_583 : decode cL_law 583 = .ok (.aload_n 0, 1) := by decide +kernel
theorem dL_law_584 : decode cL_law 584 = .ok (.iload_n 3, 1) := by decide +kernel
theorem dL_law_585 : decode cL_law 585 = .ok (.iconst 1, 1) := by decide +kernel
theorem dL_law_586 : decode cL_law 586 = .ok (.iadd, 1) := by decide +kernel
theorem dL_law_587 : decode cL_law 587 = .ok (.iaload, 1) := by decide +kernel
theorem dL_law_588 : decode cL_law 588 = .ok (.aload_n 0, 1) := by decide +kernel
theorem dL_law_589 : decode cL_law 589 = .ok (.iload_n 3, 1) := by decide +kernel
theorem dL_law_590 : decode cL_law 590 = .ok (.iconst 2, 1) := by decide +kernel
theorem dL_law_591 : decode cL_law 591 = .ok (.iadd, 1) := by decide +kernel
theorem dL_law_592 : decode cL_law 592 = .ok (.iaload, 1) := by decide +kernel
theorem dL_law_593 : decode cL_law 593 = .ok (.invokevirtual 84, 3) := by decide +kernel
theorem dL_law_596 : decode cL_law 596 = .ok (.if_icmp .eq 379, 3) := by decide +kernel
theorem dL_law_599 : decode cL_law 599 = .ok (.iconst 0, 1) := by decide +kernel
theorem dL_law_600 : decode cL_law 600 = .ok (.ireturn, 1) := by decide +kernel
theorem dL_law_601 : decode cL_law 601 = .ok (.aload_n 1, 1) := by decide +kernel
theorem dL_law_602 : decode cL_law 602 = .ok (.aload_n 0, 1) := by decide +kernel
theorem dL_law_603 : decode cL_law 603 = .ok (.iload_n 3, 1) := by decide +kernel
theorem dL_law_604 : decode cL_law 604 = .ok (.iconst 1, 1) := by decide +kernel
theorem dL_law_605 : decode cL_law 605 = .ok (.iadd, 1) := by decide +kernel
theorem dL_law_606 : decode cL_law 606 = .ok (.iaload, 1) := by decide +kernel
theorem dL_law_607 : decode cL_law 607 = .ok (.invokevirtual 85, 3) := by decide +kernel
theorem dL_law_610 : decode cL_law 610 = .ok (.aload_n 2, 1) := by decide +kernel
theorem dL_law_611 : decode cL_law 611 = .ok (.aload_n 0, 1) := by decide +kernel
theorem dL_law_612 : decode cL_law 612 = .ok (.iload_n 3, 1) := by decide +kernel
theorem dL_law_613 : decode cL_law 613 = .ok (.iconst 1, 1) := by decide +kernel
theorem dL_law_614 : decode cL_law 614 = .ok (.iadd, 1) := by decide +kernel
theorem dL_law_615 : decode cL_law 615 = .ok (.iaload, 1) := by decide +kernel
theorem dL_law_616 : decode cL_law 616 = .ok (.invokevirtual 88, 3) := by decide +kernel
theorem dL_law_619 : decode cL_law 619 = .ok (.if_icmp .eq 356, 3) := by decide +kernel
theorem dL_law_622 : decode cL_law 622 = .ok (.iconst 0, 1) := by decide +kernel
theorem dL_law_623 : decode cL_law 623 = .ok (.ireturn, 1) := by decide +kernel
theorem dL_law_624 : decode cL_law 624 = .ok (.aload_n 1, 1) := by decide +kernel
theorem dL_law_625 : decode cL_law 625 = .ok (.aload_n 0, 1) := by decide +kernel
theorem dL_law_626 : decode cL_law 626 = .ok (.iload_n 3, 1) := by decide +kernel
theorem dL_law_627 : decode cL_law 627 = .ok (.iconst 1, 1) := by decide +kernel
theorem dL_law_628 : decode cL_law 628 = .ok (.iadd, 1) := by decide +kernel
theorem dL_law_629 : decode cL_law 629 = .ok (.iaload, 1) := by decide +kernel
theorem dL_law_630 : decode cL_law 630 = .ok (.invokevirtual 89, 3) := by decide +kernel
theorem dL_law_633 : decode cL_law 633 = .ok (.aload_n 2, 1) := by decide +kernel
theorem dL_law_634 : decode cL_law 634 = .ok (.aload_n 0, 1) := by decide +kernel
theorem dL_law_635 : decode cL_law 635 = .ok (.iload_n 3, 1) := by decide +kernel
theorem dL_law_636 : decode cL_law 636 = .ok (.iconst 1, 1) := by decide +kernel
theorem dL_law_637 : decode cL_law 637 = .ok (.iadd, 1) := by decide +kernel
theorem dL_law_638 : decode cL_law 638 = .ok (.iaload, 1) := by decide +kernel
theorem dL_law_639 : decode cL_law 639 = .ok (.invokevirtual 92, 3) := by decide +kernel
theorem dL_law_642 : decode cL_law 642 = .ok (.if_icmp .eq 333, 3) := by decide +kernel
theorem dL_law_645 : decode cL_law 645 = .ok (.iconst 0, 1) := by decide +kernel
theorem dL_law_646 : decode cL_law 646 = .ok (.ireturn, 1) := by decide +kernel
theorem dL_law_647 : decode cL_law 647 = .ok (.aload_n 1, 1) := by decide +kernel
theorem dL_law_648 : decode cL_law 648 = .ok (.aload_n 0, 1) := by decide +kernel
theorem dL_law_649 : decode cL_law 649 = .ok (.iload_n 3, 1) := by decide +kernel
theorem dL_law_650 : decode cL_law 650 = .ok (.iconst 1, 1) := by decide +kernel
theorem dL_law_651 : decode cL_law 651 = .ok (.iadd, 1) := by decide +kernel
theorem dL_law_652 : decode cL_law 652 = .ok (.iaload, 1) := by decide +kernel
theorem dL_law_653 : decode cL_law 653 = .ok (.aload_n 0, 1) := by decide +kernel
theorem dL_law_654 : decode cL_law 654 = .ok (.iload_n 3, 1) := by decide +kernel
theorem dL_law_655 : decode cL_law 655 = .ok (.iconst 2, 1) := by decide +kernel
theorem dL_law_656 : decode cL_law 656 = .ok (.iadd, 1) := by decide +kernel
theorem dL_law_657 : decode cL_law 657 = .ok (.iaload, 1) := by decide +kernel
theorem dL_law_658 : decode cL_law 658 = .ok (.aload_n 0, 1) := by decide +kernel
theorem dL_law_659 : decode cL_law 659 = .ok (.iload_n 3, 1) := by decide +kernel
theorem dL_law_660 : decode cL_law 660 = .ok (.iconst 3, 1) := by decide +kernel
theorem dL_law_661 : decode cL_law 661 = .ok (.iadd, 1) := by decide +kernel
theorem dL_law_662 : decode cL_law 662 = .ok (.iaload, 1) := by decide +kernel
theorem dL_law_663 : decode cL_law 663 = .ok (.invokevirtual 93, 3) := by decide +kernel
theorem dL_law_666 : decode cL_law 666 = .ok (.aload_n 2, 1) := by decide +kernel
theorem dL_law_667 : decode cL_law 667 = .ok (.aload_n 0, 1) := by decide +kernel
theorem dL_law_668 : decode cL_law 668 = .ok (.iload_n 3, 1) := by decide +kernel
theorem dL_law_669 : decode cL_law 669 = .ok (.iconst 1, 1) := by decide +kernel
theorem dL_law_670 : decode cL_law 670 = .ok (.iadd, 1) := by decide +kernel
theorem dL_law_671 : decode cL_law 671 = .ok (.iaload, 1) := by decide +kernel
theorem dL_law_672 : decode cL_law 672 = .ok (.aload_n 0, 1) := by decide +kernel
theorem dL_law_673 : decode cL_law 673 = .ok (.iload_n 3, 1) := by decide +kernel
theorem dL_law_674 : decode cL_law 674 = .ok (.iconst 2, 1) := by decide +kernel
theorem dL_law_675 : decode cL_law 675 = .ok (.iadd, 1) := by decide +kernel
theorem dL_law_676 : decode cL_law 676 = .ok (.iaload, 1) := by decide +kernel
theorem dL_law_677 : decode cL_law 677 = .ok (.aload_n 0, 1) := by decide +kernel
theorem dL_law_678 : decode cL_law 678 = .ok (.iload_n 3, 1) := by decide +kernel
theorem dL_law_679 : decode cL_law 679 = .ok (.iconst 3, 1) := by decide +kernel
theorem dL_law_680 : decode cL_law 680 = .ok (.iadd, 1) := by decide +kernel
theorem dL_law_681 : decode cL_law 681 = .ok (.iaload, 1) := by decide +kernel
theorem dL_law_682 : decode cL_law 682 = .ok (.invokevirtual 97, 3) := by decide +kernel
theorem dL_law_685 : decode cL_law 685 = .ok (.lcmp, 1) := by decide +kernel
theorem dL_law_686 : decode cL_law 686 = .ok (.ifCond .eq 289, 3) := by decide +kernel
theorem dL_law_689 : decode cL_law 689 = .ok (.iconst 0, 1) := by decide +kernel
theorem dL_law_690 : decode cL_law 690 = .ok (.ireturn, 1) := by decide +kernel
theorem dL_law_691 : decode cL_law 691 = .ok (.aload_n 1, 1) := by decide +kernel
theorem dL_law_692 : decode cL_law 692 = .ok (.invokevirtual 98, 3) := by decide +kernel
theorem dL_law_695 : decode cL_law 695 = .ok (.aload_n 2, 1) := by decide +kernel
theorem dL_law_696 : decode cL_law 696 = .ok (.invokevirtual 101, 3) := by decide +kernel
theorem dL_law_699 : decode cL_law 699 = .ok (.if_icmp .eq 276, 3) := by decide +kernel
theorem dL_law_702 : decode cL_law 702 = .ok (.iconst 0, 1) := by decide +kernel
theorem dL_law_703 : decode cL_law 703 = .ok (.ireturn, 1) := by decide +kernel
theorem dL_law_704 : decode cL_law 704 = .ok (.aload_n 1, 1) := by decide +kernel
theorem dL_law_705 : decode cL_law 705 = .ok (.invokevirtual 102, 3) := by decide +kernel
theorem dL_law_708 : decode cL_law 708 = .ok (.aload_n 2, 1) := by decide +kernel
theorem dL_law_709 : decode cL_law 709 = .ok (.invokevirtual 105, 3) := by decide +kernel
theorem dL_law_712 : decode cL_law 712 = .ok (.if_icmp .eq 263, 3) := by decide +kernel
theorem dL_law_715 : decode cL_law 715 = .ok (.iconst 0, 1) := by decide +kernel
theorem dL_law_716 : decode cL_law 716 = .ok (.ireturn, 1) := by decide +kernel
theorem dL_law_717 : decode cL_law 717 = .ok (.aload_n 1, 1) := by decide +kernel
theorem dL_law_718 : decode cL_law 718 = .ok (.aload_n 0, 1) := by decide +kernel
theorem dL_law_719 : decode cL_law 719 = .ok (.iload_n 3, 1) := by decide +kernel
theorem dL_law_720 : decode cL_law 720 = .ok (.iconst 1, 1) := by decide +kernel
theorem dL_law_721 : decode cL_law 721 = .ok (.iadd, 1) := by decide +kernel
theorem dL_law_722 : decode cL_law 722 = .ok (.iaload, 1) := by decide +kernel
theorem dL_law_723 : decode cL_law 723 = .ok (.invokevirtual 106, 3) := by decide +kernel
theorem dL_law_726 : decode cL_law 726 = .ok (.aload_n 2, 1) := by decide +kernel
theorem dL_law_727 : decode cL_law 727 = .ok (.aload_n 0, 1) := by decide +kernel
theorem dL_law_728 : decode cL_law 728 = .ok (.iload_n 3, 1) := by decide +kernel
theorem dL_law_729 : decode cL_law 729 = .ok (.iconst 1, 1) := by decide +kernel
theorem dL_law_730 : decode cL_law 730 = .ok (.iadd, 1) := by decide +kernel
theorem dL_law_731 : decode cL_law 731 = .ok (.iaload, 1) := by decide +kernel
theorem dL_law_732 : decode cL_law 732 = .ok (.invokevirtual 109, 3) := by decide +kernel
theorem dL_law_735 : decode cL_law 735 = .ok (.if_icmp .eq 240, 3) := by decide +kernel
theorem dL_law_738 : decode cL_law 738 = .ok (.iconst 0, 1) := by decide +kernel
theorem dL_law_739 : decode cL_law 739 = .ok (.ireturn, 1) := by decide +kernel
theorem dL_law_740 : decode cL_law 740 = .ok (.aload_n 1, 1) := by decide +kernel
theorem dL_law_741 : decode cL_law 741 = .ok (.aload_n 0, 1) := by decide +kernel
theorem dL_law_742 : decode cL_law 742 = .ok (.iload_n 3, 1) := by decide +kernel
theorem dL_law_743 : decode cL_law 743 = .ok (.iconst 1, 1) := by decide +kernel
theorem dL_law_744 : decode cL_law 744 = .ok (.iadd, 1) := by decide +kernel
theorem dL_law_745 : decode cL_law 745 = .ok (.iaload, 1) := by decide +kernel
theorem dL_law_746 : decode cL_law 746 = .ok (.aload_n 0, 1) := by decide +kernel
theorem dL_law_747 : decode cL_law 747 = .ok (.iload_n 3, 1) := by decide +kernel
theorem dL_law_748 : decode cL_law 748 = .ok (.iconst 2, 1) := by decide +kernel
theorem dL_law_749 : decode cL_law 749 = .ok (.iadd, 1) := by decide +kernel
theorem dL_law_750 : decode cL_law 750 = .ok (.iaload, 1) := by decide +kernel
theorem dL_law_751 : decode cL_law 751 = .ok (.aload_n 0, 1) := by decide +kernel
theorem dL_law_752 : decode cL_law 752 = .ok (.iload_n 3, 1) := by decide +kernel
theorem dL_law_753 : decode cL_law 753 = .ok (.iconst 3, 1) := by decide +kernel
theorem dL_law_754 : decode cL_law 754 = .ok (.iadd, 1) := by decide +kernel
theorem dL_law_755 : decode cL_law 755 = .ok (.iaload, 1) := by decide +kernel
theorem dL_law_756 : decode cL_law 756 = .ok (.invokevirtual 110, 3) := by decide +kernel
theorem dL_law_759 : decode cL_law 759 = .ok (.aload_n 2, 1) := by decide +kernel
theorem dL_law_760 : decode cL_law 760 = .ok (.aload_n 0, 1) := by decide +kernel
theorem dL_law_761 : decode cL_law 761 = .ok (.iload_n 3, 1) := by decide +kernel
theorem dL_law_762 : decode cL_law 762 = .ok (.iconst 1, 1) := by decide +kernel
theorem dL_law_763 : decode cL_law 763 = .ok (.iadd, 1) := by decide +kernel
theorem dL_law_764 : decode cL_law 764 = .ok (.iaload, 1) := by decide +kernel
theorem dL_law_765 : decode cL_law 765 = .ok (.aload_n 0, 1) := by decide +kernel
theorem dL_law_766 : decode cL_law 766 = .ok (.iload_n 3, 1) := by decide +kernel
theorem dL_law_767 : decode cL_law 767 = .ok (.iconst 2, 1) := by decide +kernel
theorem dL_law_768 : decode cL_law 768 = .ok (.iadd, 1) := by decide +kernel
theorem dL_law_769 : decode cL_law 769 = .ok (.iaload, 1) := by decide +kernel
theorem dL_law_770 : decode cL_law 770 = .ok (.aload_n 0, 1) := by decide +kernel
theorem dL_law_771 : decode cL_law 771 = .ok (.iload_n 3, 1) := by decide +kernel
theorem dL_law_772 : decode cL_law 772 = .ok (.iconst 3, 1) := by decide +kernel
theorem dL_law_773 : decode cL_law 773 = .ok (.iadd, 1) := by decide +kernel
theorem dL_law_774 : decode cL_law 774 = .ok (.iaload, 1) := by decide +kernel
theorem dL_law_775 : decode cL_law 775 = .ok (.invokevirtual 113, 3) := by decide +kernel
theorem dL_law_778 : decode cL_law 778 = .ok (.if_icmp .eq 197, 3) := by decide +kernel
theorem dL_law_781 : decode cL_law 781 = .ok (.iconst 0, 1) := by decide +kernel
theorem dL_law_782 : decode cL_law 782 = .ok (.ireturn, 1) := by decide +kernel
theorem dL_law_783 : decode cL_law 783 = .ok (.aload_n 1, 1) := by decide +kernel
theorem dL_law_784 : decode cL_law 784 = .ok (.aload_n 0, 1) := by decide +kernel
theorem dL_law_785 : decode cL_law 785 = .ok (.iload_n 3, 1) := by decide +kernel
theorem dL_law_786 : decode cL_law 786 = .ok (.iconst 1, 1) := by decide +kernel
theorem dL_law_787 : decode cL_law 787 = .ok (.iadd, 1) := by decide +kernel
theorem dL_law_788 : decode cL_law 788 = .ok (.iaload, 1) := by decide +kernel
theorem dL_law_789 : decode cL_law 789 = .ok (.aload_n 0, 1) := by decide +kernel
theorem dL_law_790 : decode cL_law 790 = .ok (.iload_n 3, 1) := by decide +kernel
theorem dL_law_791 : decode cL_law 791 = .ok (.iconst 2, 1) := by decide +kernel
theorem dL_law_792 : decode cL_law 792 = .ok (.iadd, 1) := by decide +kernel
theorem dL_law_793 : decode cL_law 793 = .ok (.iaload, 1) := by decide +kernel
theorem dL_law_794 : decode cL_law 794 = .ok (.aload_n 0, 1) := by decide +kernel
theorem dL_law_795 : decode cL_law 795 = .ok (.iload_n 3, 1) := by decide +kernel
theorem dL_law_796 : decode cL_law 796 = .ok (.iconst 3, 1) := by decide +kernel
theorem dL_law_797 : decode cL_law 797 = .ok (.iadd, 1) := by decide +kernel
theorem dL_law_798 : decode cL_law 798 = .ok (.iaload, 1) := by decide +kernel
theorem dL_law_799 : decode cL_law 799 = .ok (.invokevirtual 114, 3) := by decide +kernel
theorem dL_law_802 : decode cL_law 802 = .ok (.aload_n 2, 1) := by decide +kernel
theorem dL_law_803 : decode cL_law 803 = .ok (.aload_n 0, 1) := by decide +kernel
theorem dL_law_804 : decode cL_law 804 = .ok (.iload_n 3, 1) := by decide +kernel
theorem dL_law_805 : decode cL_law 805 = .ok (.iconst 1, 1) := by decide +kernel
theorem dL_law_806 : decode cL_law 806 = .ok (.iadd, 1) := by decide +kernel
theorem dL_law_807 : decode cL_law 807 = .ok (.iaload, 1) := by decide +kernel
theorem dL_law_808 : decode cL_law 808 = .ok (.aload_n 0, 1) := by decide +kernel
theorem dL_law_809 : decode cL_law 809 = .ok (.iload_n 3, 1) := by decide +kernel
theorem dL_law_810 : decode cL_law 810 = .ok (.iconst 2, 1) := by decide +kernel
theorem dL_law_811 : decode cL_law 811 = .ok (.iadd, 1) := by decide +kernel
theorem dL_law_812 : decode cL_law 812 = .ok (.iaload, 1) := by decide +kernel
theorem dL_law_813 : decode cL_law 813 = .ok (.aload_n 0, 1) := by decide +kernel
theorem dL_law_814 : decode cL_law 814 = .ok (.iload_n 3, 1) := by decide +kernel
theorem dL_law_815 : decode cL_law 815 = .ok (.iconst 3, 1) := by decide +kernel
theorem dL_law_816 : decode cL_law 816 = .ok (.iadd, 1) := by decide +kernel
theorem dL_law_817 : decode cL_law 817 = .ok (.iaload, 1) := by decide +kernel
theorem dL_law_818 : decode cL_law 818 = .ok (.invokevirtual 117, 3) := by decide +kernel
theorem dL_law_821 : decode cL_law 821 = .ok (.if_icmp .eq 154, 3) := by decide +kernel
theorem dL_law_824 : decode cL_law 824 = .ok (.iconst 0, 1) := by decide +kernel
theorem dL_law_825 : decode cL_law 825 = .ok (.ireturn, 1) := by decide +kernel
theorem dL_law_826 : decode cL_law 826 = .ok (.aload_n 1, 1) := by decide +kernel
theorem dL_law_827 : decode cL_law 827 = .ok (.aload_n 0, 1) := by decide +kernel
theorem dL_law_828 : decode cL_law 828 = .ok (.iload_n 3, 1) := by decide +kernel
theorem dL_law_829 : decode cL_law 829 = .ok (.iconst 1, 1) := by decide +kernel
theorem dL_law_830 : decode cL_law 830 = .ok (.iadd, 1) := by decide +kernel
theorem dL_law_831 : decode cL_law 831 = .ok (.iaload, 1) := by decide +kernel
theorem dL_law_832 : decode cL_law 832 = .ok (.aload_n 0, 1) := by decide +kernel
theorem dL_law_833 : decode cL_law 833 = .ok (.iload_n 3, 1) := by decide +kernel
theorem dL_law_834 : decode cL_law 834 = .ok (.iconst 2, 1) := by decide +kernel
theorem dL_law_835 : decode cL_law 835 = .ok (.iadd, 1) := by decide +kernel
theorem dL_law_836 : decode cL_law 836 = .ok (.iaload, 1) := by decide +kernel
theorem dL_law_837 : decode cL_law 837 = .ok (.aload_n 0, 1) := by decide +kernel
theorem dL_law_838 : decode cL_law 838 = .ok (.iload_n 3, 1) := by decide +kernel
theorem dL_law_839 : decode cL_law 839 = .ok (.iconst 3, 1) := by decide +kernel
theorem dL_law_840 : decode cL_law 840 = .ok (.iadd, 1) := by decide +kernel
theorem dL_law_841 : decode cL_law 841 = .ok (.iaload, 1) := by decide +kernel
theorem dL_law_842 : decode cL_law 842 = .ok (.aload_n 0, 1) := by decide +kernel
theorem dL_law_843 : decode cL_law 843 = .ok (.iload_n 3, 1) := by decide +kernel
theorem dL_law_844 : decode cL_law 844 = .ok (.iconst 4, 1) := by decide +kernel
theorem dL_law_845 : decode cL_law 845 = .ok (.iadd, 1) := by decide +kernel
theorem dL_law_846 : decode cL_law 846 = .ok (.iaload, 1) := by decide +kernel
theorem dL_law_847 : decode cL_law 847 = .ok (.aload_n 0, 1) := by decide +kernel
theorem dL_law_848 : decode cL_law 848 = .ok (.iload_n 3, 1) := by decide +kernel
theorem dL_law_849 : decode cL_law 849 = .ok (.iconst 5, 1) := by decide +kernel
theorem dL_law_850 : decode cL_law 850 = .ok (.iadd, 1) := by decide +kernel
theorem dL_law_851 : decode cL_law 851 = .ok (.iaload, 1) := by decide +kernel
theorem dL_law_852 : decode cL_law 852 = .ok (.invokevirtual 118, 3) := by decide +kernel
theorem dL_law_855 : decode cL_law 855 = .ok (.aload_n 2, 1) := by decide +kernel
theorem dL_law_856 : decode cL_law 856 = .ok (.aload_n 0, 1) := by decide +kernel
theorem dL_law_857 : decode cL_law 857 = .ok (.iload_n 3, 1) := by decide +kernel
theorem dL_law_858 : decode cL_law 858 = .ok (.iconst 1, 1) := by decide +kernel
theorem dL_law_859 : decode cL_law 859 = .ok (.iadd, 1) := by decide +kernel
theorem dL_law_860 : decode cL_law 860 = .ok (.iaload, 1) := by decide +kernel
theorem dL_law_861 : decode cL_law 861 = .ok (.aload_n 0, 1) := by decide +kernel
theorem dL_law_862 : decode cL_law 862 = .ok (.iload_n 3, 1) := by decide +kernel
theorem dL_law_863 : decode cL_law 863 = .ok (.iconst 2, 1) := by decide +kernel
theorem dL_law_864 : decode cL_law 864 = .ok (.iadd, 1) := by decide +kernel
theorem dL_law_865 : decode cL_law 865 = .ok (.iaload, 1) := by decide +kernel
theorem dL_law_866 : decode cL_law 866 = .ok (.aload_n 0, 1) := by decide +kernel
theorem dL_law_867 : decode cL_law 867 = .ok (.iload_n 3, 1) := by decide +kernel
theorem dL_law_868 : decode cL_law 868 = .ok (.iconst 3, 1) := by decide +kernel
theorem dL_law_869 : decode cL_law 869 = .ok (.iadd, 1) := by decide +kernel
theorem dL_law_870 : decode cL_law 870 = .ok (.iaload, 1) := by decide +kernel
theorem dL_law_871 : decode cL_law 871 = .ok (.aload_n 0, 1) := by decide +kernel
theorem dL_law_872 : decode cL_law 872 = .ok (.iload_n 3, 1) := by decide +kernel
theorem dL_law_873 : decode cL_law 873 = .ok (.iconst 4, 1) := by decide +kernel
theorem dL_law_874 : decode cL_law 874 = .ok (.iadd, 1) := by decide +kernel
theorem dL_law_875 : decode cL_law 875 = .ok (.iaload, 1) := by decide +kernel
theorem dL_law_876 : decode cL_law 876 = .ok (.aload_n 0, 1) := by decide +kernel
theorem dL_law_877 : decode cL_law 877 = .ok (.iload_n 3, 1) := by decide +kernel
theorem dL_law_878 : decode cL_law 878 = .ok (.iconst 5, 1) := by decide +kernel
theorem dL_law_879 : decode cL_law 879 = .ok (.iadd, 1) := by decide +kernel
theorem dL_law_880 : decode cL_law 880 = .ok (.iaload, 1) := by decide +kernel
theorem dL_law_881 : decode cL_law 881 = .ok (.invokevirtual 122, 3) := by decide +kernel
theorem dL_law_884 : decode cL_law 884 = .ok (.if_icmp .eq 91, 3) := by decide +kernel
theorem dL_law_887 : decode cL_law 887 = .ok (.iconst 0, 1) := by decide +kernel
theorem dL_law_888 : decode cL_law 888 = .ok (.ireturn, 1) := by decide +kernel
theorem dL_law_889 : decode cL_law 889 = .ok (.aload_n 1, 1) := by decide +kernel
theorem dL_law_890 : decode cL_law 890 = .ok (.aload_n 0, 1) := by decide +kernel
theorem dL_law_891 : decode cL_law 891 = .ok (.iload_n 3, 1) := by decide +kernel
theorem dL_law_892 : decode cL_law 892 = .ok (.iconst 1, 1) := by decide +kernel
theorem dL_law_893 : decode cL_law 893 = .ok (.iadd, 1) := by decide +kernel
theorem dL_law_894 : decode cL_law 894 = .ok (.iaload, 1) := by decide +kernel
theorem dL_law_895 : decode cL_law 895 = .ok (.aload_n 0, 1) := by decide +kernel
theorem dL_law_896 : decode cL_law 896 = .ok (.iload_n 3, 1) := by decide +kernel
theorem dL_law_897 : decode cL_law 897 = .ok (.iconst 2, 1) := by decide +kernel
theorem dL_law_898 : decode cL_law 898 = .ok (.iadd, 1) := by decide +kernel
theorem dL_law_899 : decode cL_law 899 = .ok (.iaload, 1) := by decide +kernel
theorem dL_law_900 : decode cL_law 900 = .ok (.aload_n 0, 1) := by decide +kernel
theorem dL_law_901 : decode cL_law 901 = .ok (.iload_n 3, 1) := by decide +kernel
theorem dL_law_902 : decode cL_law 902 = .ok (.iconst 3, 1) := by decide +kernel
theorem dL_law_903 : decode cL_law 903 = .ok (.iadd, 1) := by decide +kernel
theorem dL_law_904 : decode cL_law 904 = .ok (.iaload, 1) := by decide +kernel
theorem dL_law_905 : decode cL_law 905 = .ok (.aload_n 0, 1) := by decide +kernel
theorem dL_law_906 : decode cL_law 906 = .ok (.iload_n 3, 1) := by decide +kernel
theorem dL_law_907 : decode cL_law 907 = .ok (.iconst 4, 1) := by decide +kernel
theorem dL_law_908 : decode cL_law 908 = .ok (.iadd, 1) := by decide +kernel
theorem dL_law_909 : decode cL_law 909 = .ok (.iaload, 1) := by decide +kernel
theorem dL_law_910 : decode cL_law 910 = .ok (.invokevirtual 123, 3) := by decide +kernel
theorem dL_law_913 : decode cL_law 913 = .ok (.aload_n 2, 1) := by decide +kernel
theorem dL_law_914 : decode cL_law 914 = .ok (.aload_n 0, 1) := by decide +kernel
theorem dL_law_915 : decode cL_law 915 = .ok (.iload_n 3, 1) := by decide +kernel
theorem dL_law_916 : decode cL_law 916 = .ok (.iconst 1, 1) := by decide +kernel
theorem dL_law_917 : decode cL_law 917 = .ok (.iadd, 1) := by decide +kernel
theorem dL_law_918 : decode cL_law 918 = .ok (.iaload, 1) := by decide +kernel
theorem dL_law_919 : decode cL_law 919 = .ok (.aload_n 0, 1) := by decide +kernel
theorem dL_law_920 : decode cL_law 920 = .ok (.iload_n 3, 1) := by decide +kernel
theorem dL_law_921 : decode cL_law 921 = .ok (.iconst 2, 1) := by decide +kernel
theorem dL_law_922 : decode cL_law 922 = .ok (.iadd, 1) := by decide +kernel
theorem dL_law_923 : decode cL_law 923 = .ok (.iaload, 1) := by decide +kernel
theorem dL_law_924 : decode cL_law 924 = .ok (.aload_n 0, 1) := by decide +kernel
theorem dL_law_925 : decode cL_law 925 = .ok (.iload_n 3, 1) := by decide +kernel
theorem dL_law_926 : decode cL_law 926 = .ok (.iconst 3, 1) := by decide +kernel
theorem dL_law_927 : decode cL_law 927 = .ok (.iadd, 1) := by decide +kernel
theorem dL_law_928 : decode cL_law 928 = .ok (.iaload, 1) := by decide +kernel
theorem dL_law_929 : decode cL_law 929 = .ok (.aload_n 0, 1) := by decide +kernel
theorem dL_law_930 : decode cL_law 930 = .ok (.iload_n 3, 1) := by decide +kernel
theorem dL_law_931 : decode cL_law 931 = .ok (.iconst 4, 1) := by decide +kernel
theorem dL_law_932 : decode cL_law 932 = .ok (.iadd, 1) := by decide +kernel
theorem dL_law_933 : decode cL_law 933 = .ok (.iaload, 1) := by decide +kernel
theorem dL_law_934 : decode cL_law 934 = .ok (.invokevirtual 127, 3) := by decide +kernel
theorem dL_law_937 : decode cL_law 937 = .ok (.if_icmp .eq 38, 3) := by decide +kernel
theorem dL_law_940 : decode cL_law 940 = .ok (.iconst 0, 1) := by decide +kernel
theorem dL_law_941 : decode cL_law 941 = .ok (.ireturn, 1) := by decide +kernel
theorem dL_law_942 : decode cL_law 942 = .ok (.aload_n 1, 1) := by decide +kernel
theorem dL_law_943 : decode cL_law 943 = .ok (.aload_n 0, 1) := by decide +kernel
theorem dL_law_944 : decode cL_law 944 = .ok (.iload_n 3, 1) := by decide +kernel
theorem dL_law_945 : decode cL_law 945 = .ok (.iconst 1, 1) := by decide +kernel
theorem dL_law_946 : decode cL_law 946 = .ok (.iadd, 1) := by decide +kernel
theorem dL_law_947 : decode cL_law 947 = .ok (.iaload, 1) := by decide +kernel
theorem dL_law_948 : decode cL_law 948 = .ok (.aload_n 0, 1) := by decide +kernel
theorem dL_law_949 : decode cL_law 949 = .ok (.iload_n 3, 1) := by decide +kernel
theorem dL_law_950 : decode cL_law 950 = .ok (.iconst 2, 1) := by decide +kernel
theorem dL_law_951 : decode cL_law 951 = .ok (.iadd, 1) := by decide +kernel
theorem dL_law_952 : decode cL_law 952 = .ok (.iaload, 1) := by decide +kernel
theorem dL_law_953 : decode cL_law 953 = .ok (.invokevirtual 128, 3) := by decide +kernel
theorem dL_law_956 : decode cL_law 956 = .ok (.aload_n 2, 1) := by decide +kernel
theorem dL_law_957 : decode cL_law 957 = .ok (.aload_n 0, 1) := by decide +kernel
theorem dL_law_958 : decode cL_law 958 = .ok (.iload_n 3, 1) := by decide +kernel
theorem dL_law_959 : decode cL_law 959 = .ok (.iconst 1, 1) := by decide +kernel
theorem dL_law_960 : decode cL_law 960 = .ok (.iadd, 1) := by decide +kernel
theorem dL_law_961 : decode cL_law 961 = .ok (.iaload, 1) := by decide +kernel
theorem dL_law_962 : decode cL_law 962 = .ok (.aload_n 0, 1) := by decide +kernel
theorem dL_law_963 : decode cL_law 963 = .ok (.iload_n 3, 1) := by decide +kernel
theorem dL_law_964 : decode cL_law 964 = .ok (.iconst 2, 1) := by decide +kernel
theorem dL_law_965 : decode cL_law 965 = .ok (.iadd, 1) := by decide +kernel
theorem dL_law_966 : decode cL_law 966 = .ok (.iaload, 1) := by decide +kernel
theorem dL_law_967 : decode cL_law 967 = .ok (.invokevirtual 131, 3) := by decide +kernel
theorem dL_law_970 : decode cL_law 970 = .ok (.if_icmp .eq 5, 3) := by decide +kernel
theorem dL_law_973 : decode cL_law 973 = .ok (.iconst 0, 1) := by decide +kernel
theorem dL_law_974 : decode cL_law 974 = .ok (.ireturn, 1) := by decide +kernel
theorem dL_law_975 : decode cL_law 975 = .ok (.iinc 3 6, 3) := by decide +kernel
theorem dL_law_978 : decode cL_law 978 = .ok (.goto (-960), 3) := by decide +kernel
theorem dL_law_981 : decode cL_law 981 = .ok (.iconst 1, 1) := by decide +kernel
theorem dL_law_982 : decode cL_law 982 = .ok (.ireturn, 1) := by decide +kernel
end
section
theorem dX8_in_0 : decode cX8_in 0 = .ok (.lload_n 0, 1) := by decide +kernel
theorem dX8_in_1 : decode cX8_in 1 = .ok (.lload_n 2, 1) := by decide +kernel
theorem dX8_in_2 : decode cX8_in 2 = .ok (.lcmp, 1) := by decide +kernel
theorem dX8_in_3 : decode cX8_in 3 = .ok (.ifCond .lt 14, 3) := by decide +kernel
theorem dX8_in_6 : decode cX8_in 6 = .ok (.lload_n 0, 1) := by decide +kernel
theorem dX8_in_7 : decode cX8_in 7 = .ok (.lload 4, 2) := by decide +kernel
theorem dX8_in_9 : decode cX8_in 9 = .ok (.lcmp, 1) := by decide +kernel
theorem dX8_in_10 : decode cX8_in 10 = .ok (.ifCond .gt 7, 3) := by decide +kernel
theorem dX8_in_13 : decode cX8_in 13 = .ok (.iconst 1, 1) := by decide +kernel
theorem dX8_in_14 : decode cX8_in 14 = .ok (.goto 4, 3) := by decide +kernel
theorem dX8_in_17 : decode cX8_in 17 = .ok (.iconst 0, 1) := by decide +kernel
theorem dX8_in_18 : decode cX8_in 18 = .ok (.ireturn, 1) := by decide +kernel
theorem dX8_within_0 : decode cX8_within 0 = .ok (.iload_n 0, 1) := by decide +kernel
theorem dX8_within_1 : decode cX8_within 1 = .ok (.iload_n 1, 1) := by decide +kernel
theorem dX8_within_2 : decode cX8_within 2 = .ok (.if_icmp .ge 7, 3) := by decide +kernel
theorem dX8_within_5 : decode cX8_within 5 = .ok (.iload_n 1, 1) := by decide +kernel
theorem dX8_within_6 : decode cX8_within 6 = .ok (.goto 13, 3) := by decide +kernel
theorem dX8_within_9 : decode cX8_within 9 = .ok (.iload_n 0, 1) := by decide +kernel
theorem dX8_within_10 : decode cX8_within 10 = .ok (.iload_n 2, 1) := by decide +kernel
theorem dX8_within_11 : decode cX8_within 11 = .ok (.if_icmp .le 7, 3) := by decide +kernel
theorem dX8_within_14 : decode cX8_within 14 = .ok (.iload_n 2, 1) := by decide +kernel
theorem dX8_within_15 : decode cX8_within 15 = .ok (.goto 4, 3) := by decide +kernel
theorem dX8_within_18 : decode cX8_within 18 = .ok (.iload_n 0, 1) := by decide +kernel
theorem dX8_within_19 : decode cX8_within 19 = .ok (.ireturn, 1) := by decide +kernel
theorem dX8_init_0 : decode cX8_init 0 = .ok (.aload_n 0, 1) := by decide +kernel
theorem dX8_init_1 : decode cX8_init 1 = .ok (.invokespecial 7, 3) := by decide +kernel
theorem dX8_init_4 : decode cX8_init 4 = .ok (.aload_n 0, 1) := by decide +kernel
theorem dX8_init_5 : decode cX8_init 5 = .ok (.sipush 960, 3) := by decide +kernel
theorem dX8_init_8 : decode cX8_init 8 = .ok (.newarray .int, 2) := by decide +kernel
theorem dX8_init_10 : decode cX8_init 10 = .ok (.putfield 13, 3) := by decide +kernel
theorem dX8_init_13 : decode cX8_init 13 = .ok (.aload_n 0, 1) := by decide +kernel
theorem dX8_init_14 : decode cX8_init 14 = .ok (.bipush 6, 2) := by decide +kernel
theorem dX8_init_16 : decode cX8_init 16 = .ok (.newarray .int, 2) := by decide +kernel
theorem dX8_init_18 : decode cX8_init 18 = .ok (.putfield 17, 3) := by decide +kernel
theorem dX8_init_21 : decode cX8_init 21 = .ok (.aload_n 0, 1) := by decide +kernel
theorem dX8_init_22 : decode cX8_init 22 = .ok (.sipush 160, 3) := by decide +kernel
theorem dX8_init_25 : decode cX8_init 25 = .ok (.newarray .int, 2) := by decide +kernel
theorem dX8_init_27 : decode cX8_init 27 = .ok (.putfield 20, 3) := by decide +kernel
theorem dX8_init_30 : decode cX8_init 30 = .ok (.aload_n 0, 1) := by decide +kernel
theorem dX8_init_31 : decode cX8_init 31 = .ok (.iconst 5, 1) := by decide +kernel
theorem dX8_init_32 : decode cX8_init 32 = .ok (.putfield 23, 3) := by decide +kernel
theorem dX8_init_35 : decode cX8_init 35 = .ok (.aload_n 0, 1) := by decide +kernel
theorem dX8_init_36 : decode cX8_init 36 = .ok (.bipush 40, 2) := by decide +kernel
theorem dX8_init_38 : decode cX8_init 38 = .ok (.putfield 26, 3) := by decide +kernel
theorem dX8_init_41 : decode cX8_init 41 = .ok (.aload_n 0, 1) := by decide +kernel
theorem dX8_init_42 : decode cX8_init 42 = .ok (.bipush 7, 2) := by decide +kernel
theorem dX8_init_44 : decode cX8_init 44 = .ok (.newarray .int, 2) := by decide +kernel
theorem dX8_init_46 : decode cX8_init 46 = .ok (.putfield 29, 3) := by decide +kernel
theorem dX8_init_49 : decode cX8_init 49 = .ok (.aload_n 0, 1) := by decide +kernel
theorem dX8_init_50 : decode cX8_init 50 = .ok (.bipush 21, 2) := by decide +kernel
theorem dX8_init_52 : decode cX8_init 52 = .ok (.newarray .int, 2) := by decide +kernel
theorem dX8_init_54 : decode cX8_init 54 = .ok (.putfield 32, 3) := by decide +kernel
theorem dX8_init_57 : decode cX8_init 57 = .ok (.aload_n 0, 1) := by decide +kernel
theorem dX8_init_58 : decode cX8_init 58 = .ok (.bipush 7, 2) := by decide +kernel
theorem dX8_init_60 : decode cX8_init 60 = .ok (.newarray .int, 2) := by decide +kernel
theorem dX8_init_62 : decode cX8_init 62 = .ok (.putfield 35, 3) := by decide +kernel
theorem dX8_init_65 : decode cX8_init 65 = .ok (.aload_n 0, 1) := by decide +kernel
theorem dX8_init_66 : decode cX8_init 66 = .ok (.bipush 7, 2) := by decide +kernel
theorem dX8_init_68 : decode cX8_init 68 = .ok (.newarray .int, 2) := by decide +kernel
theorem dX8_init_70 : decode cX8_init 70 = .ok (.putfield 38, 3) := by decide +kernel
theorem dX8_init_73 : decode cX8_init 73 = .ok (.aload_n 0, 1) := by decide +kernel
theorem dX8_init_74 : decode cX8_init 74 = .ok (.bipush 64, 2) := by decide +kernel
theorem dX8_init_76 : decode cX8_init 76 = .ok (.newarray .int, 2) := by decide +kernel
theorem dX8_init_78 : decode cX8_init 78 = .ok (.putfield 41, 3) := by decide +kernel
theorem dX8_init_81 : decode cX8_init 81 = .ok (.aload_n 0, 1) := by decide +kernel
theorem dX8_init_82 : decode cX8_init 82 = .ok (.bipush 7, 2) := by decide +kernel
theorem dX8_init_84 : decode cX8_init 84 = .ok (.newarray .int, 2) := by decide +kernel
theorem dX8_init_86 : decode cX8_init 86 = .ok (.putfield 44, 3) := by decide +kernel
theorem dX8_init_89 : decode cX8_init 89 = .ok (.aload_n 0, 1) := by decide +kernel
theorem dX8_init_90 : decode cX8_init 90 = .ok (.bipush 21, 2) := by decide +kernel
theorem dX8_init_92 : decode cX8_init 92 = .ok (.newarray .int, 2) := by decide +kernel
theorem dX8_init_94 : decode cX8_init 94 = .ok (.putfield 47, 3) := by decide +kernel
theorem dX8_init_97 : decode cX8_init 97 = .ok (.aload_n 0, 1) := by decide +kernel
theorem dX8_init_98 : decode cX8_init 98 = .ok (.iconst (-1), 1) := by decide +kernel
theorem dX8_init_99 : decode cX8_init 99 = .ok (.putfield 50, 3) := by decide +kernel
theorem dX8_init_102 : decode cX8_init 102 = .ok (.aload_n 0, 1) := by decide +kernel
theorem dX8_init_103 : decode cX8_init 103 = .ok (.iconst 4, 1) := by decide +kernel
theorem dX8_init_104 : decode cX8_init 104 = .ok (.newarray .boolean, 2) := by decide +kernel
theorem dX8_init_106 : decode cX8_init 106 = .ok (.putfield 53, 3) := by decide +kernel
theorem dX8_init_109 : decode cX8_init 109 = .ok (.aload_n 0, 1) := by decide +kernel
theorem dX8_init_110 : decode cX8_init 110 = .ok (.iconst 4, 1) := by decide +kernel
theorem dX8_init_111 : decode cX8_init 111 = .ok (.newarray .int, 2) := by decide +kernel
theorem dX8_init_113 : decode cX8_init 113 = .ok (.putfield 57, 3) := by decide +kernel
theorem dX8_init_116 : decode cX8_init 116 = .ok (.aload_n 0, 1) := by decide +kernel
theorem dX8_init_117 : decode cX8_init 117 = .ok (.iconst 4, 1) := by decide +kernel
theorem dX8_init_118 : decode cX8_init 118 = .ok (.newarray .int, 2) := by decide +kernel
theorem dX8_init_120 : decode cX8_init 120 = .ok (.putfield 60, 3) := by decide +kernel
theorem dX8_init_123 : decode cX8_init 123 = .ok (.aload_n 0, 1) := by decide +kernel
theorem dX8_init_124 : decode cX8_init 124 = .ok (.sipush 160, 3) := by decide +kernel
theorem dX8_init_127 : decode cX8_init 127 = .ok (.newarray .int, 2) := by decide +kernel
theorem dX8_init_129 : decode cX8_init 129 = .ok (.putfield 63, 3) := by decide +kernel
theorem dX8_init_132 : decode cX8_init 132 = .ok (.aload_n 0, 1) := by decide +kernel
theorem dX8_init_133 : decode cX8_init 133 = .ok (.iconst 0, 1) := by decide +kernel
theorem dX8_init_134 : decode cX8_init 134 = .ok (.bipush 105, 2) := by decide +kernel
theorem dX8_init_136 : decode cX8_init 136 = .ok (.bipush 114, 2) := by decide +kernel
theorem dX8_init_138 : decode cX8_init 138 = .ok (.bipush 111, 2) := by decide +kernel
theorem dX8_init_140 : decode cX8_init 140 = .ok (.bipush 110, 2) := by decide +kernel
theorem dX8_init_142 : decode cX8_init 142 = .ok (.bipush 115, 2) := by decide +kernel
theorem dX8_init_144 : decode cX8_init 144 = .ok (.bipush 32, 2) := by decide +kernel
theorem dX8_init_146 : decode cX8_init 146 = .ok (.bipush 57, 2) := by decide +kernel
theorem dX8_init_148 : decode cX8_init 148 = .ok (.bipush 32, 2) := by decide +kernel
theorem dX8_init_150 : decode cX8_init 150 = .ok (.invokevirtual 66, 3) := by decide +kernel
theorem dX8_init_153 : decode cX8_init 153 = .ok (.aload_n 0, 1) := by decide +kernel
theorem dX8_init_154 : decode cX8_init 154 = .ok (.bipush 8, 2) := by decide +kernel
theorem dX8_init_156 : decode cX8_init 156 = .ok (.bipush 45, 2) := by decide +kernel
theorem dX8_init_158 : decode cX8_init 158 = .ok (.bipush 32, 2) := by decide +kernel
theorem dX8_init_160 : decode cX8_init 160 = .ok (.bipush 104, 2) := by decide +kernel
theorem dX8_init_162 : decode cX8_init 162 = .ok (.bipush 101, 2) := by decide +kernel
theorem dX8_init_164 : decode cX8_init 164 = .ok (.bipush 97, 2) := by decide +kernel
theorem dX8_init_166 : decode cX8_init 166 = .ok (.bipush 116, 2) := by decide +kernel
theorem dX8_init_168 : decode cX8_init 168 = .ok (.bipush 32, 2) := by decide +kernel
theorem dX8_init_170 : decode cX8_init 170 = .ok (.bipush 59, 2) := by decide +kernel
theorem dX8_init_172 : decode cX8_init 172 = .ok (.invokevirtual 66, 3) := by decide +kernel
theorem dX8_init_175 : decode cX8_init 175 = .ok (.aload_n 0, 1) := by decide +kernel
theorem dX8_init_176 : decode cX8_init 176 = .ok (.bipush 16, 2) := by decide +kernel
theorem dX8_init_178 : decode cX8_init 178 = .ok (.bipush 32, 2) := by decide +kernel
theorem dX8_init_180 : decode cX8_init 180 = .ok (.bipush 116, 2) := by decide +kernel
theorem dX8_init_182 : decode cX8_init 182 = .ok (.bipush 97, 2) := by decide +kernel
theorem dX8_init_184 : decode cX8_init 184 = .ok (.bipush 107, 2) := by decide +kernel
theorem dX8_init_186 : decode cX8_init 186 = .ok (.bipush 101, 2) := by decide +kernel
theorem dX8_init_188 : decode cX8_init 188 = .ok (.bipush 115, 2) := by decide +kernel
theorem dX8_init_190 : decode cX8_init 190 = .ok (.bipush 32, 2) := by decide +kernel
theorem dX8_init_192 : decode cX8_init 192 = .ok (.bipush 50, 2) := by decide +kernel
theorem dX8_init_194 : decode cX8_init 194 = .ok (.invokevirtual 66, 3) := by decide +kernel
theorem dX8_init_197 : decode cX8_init 197 = .ok (.aload_n 0, 1) := by decide +kernel
theorem dX8_init_198 : decode cX8_init 198 = .ok (.bipush 24, 2) := by decide +kernel
theorem dX8_init_200 : decode cX8_init 200 = .ok (.bipush 32, 2) := by decide +kernel
theorem dX8_init_202 : decode cX8_init 202 = .ok (.bipush 59, 2) := by decide +kernel
theorem dX8_init_204 : decode cX8_init 204 = .ok (.bipush 32, 2) := by decide +kernel
theorem dX8_init_206 : decode cX8_init 206 = .ok (.bipush 99, 2) := by decide +kernel
theorem dX8_init_208 : decode cX8_init 208 = .ok (.bipush 114, 2) := by decide +kernel
theorem dX8_init_210 : decode cX8_init 210 = .ok (.bipush 117, 2) := by decide +kernel
theorem dX8_init_212 : decode cX8_init 212 = .ok (.bipush 109, 2) := by decide +kernel
theorem dX8_init_214 : decode cX8_init 214 = .ok (.bipush 112, 2) := by decide +kernel
theorem dX8_init_216 : decode cX8_init 216 = .ok (.invokevirtual 66, 3) := by decide +kernel
theorem dX8_init_219 : decode cX8_init 219 = .ok (.aload_n 0, 1) := by decide +kernel
theorem dX8_init_220 : decode cX8_init 220 = .ok (.bipush 32, 2) := by decide +kernel
theorem dX8_init_222 : decode cX8_init 222 = .ok (.bipush 108, 2) := by decide +kernel
theorem dX8_init_224 : decode cX8_init 224 = .ok (.bipush 101, 2) := by decide +kernel
theorem dX8_init_226 : decode cX8_init 226 = .ok (.bipush 115, 2) := by decide +kernel
theorem dX8_init_228 : decode cX8_init 228 = .ok (.bipush 32, 2) := by decide +kernel
theorem dX8_init_230 : decode cX8_init 230 = .ok (.bipush 52, 2) := by decide +kernel
theorem dX8_init_232 : decode cX8_init 232 = .ok (.bipush 32, 2) := by decide +kernel
theorem dX8_init_234 : decode cX8_init 234 = .ok (.bipush 59, 2) := by decide +kernel
theorem dX8_init_236 : decode cX8_init 236 = .ok (.bipush 32, 2) := by decide +kernel
theorem dX8_init_238 : decode cX8_init 238 = .ok (.invokevirtual 66, 3) := by decide +kernel
theorem dX8_init_241 : decode cX8_init 241 = .ok (.aload_n 0, 1) := by decide +kernel
theorem dX8_init_242 : decode cX8_init 242 = .ok (.getfield 17, 3) := by decide +kernel
theorem dX8_init_245 : decode cX8_init 245 = .ok (.iconst 0, 1) := by decide +kernel
theorem dX8_init_246 : decode cX8_init 246 = .ok (.bipush 40, 2) := by decide +kernel
theorem dX8_init_248 : decode cX8_init 248 = .ok (.iastore, 1) := by decide +kernel
theorem dX8_init_249 : decode cX8_init 249 = .ok (.aload_n 0, 1) := by decide +kernel
theorem dX8_init_250 : decode cX8_init 250 = .ok (.iconst 1, 1) := by decide +kernel
theorem dX8_init_251 : decode cX8_init 251 = .ok (.putfield 70, 3) := by decide +kernel
theorem dX8_init_254 : decode cX8_init 254 = .ok (.return_, 1) := by decide +kernel
theorem dX8_spell_0 : decode cX8_spell 0 = .ok (.aload_n 0, 1) := by decide +kernel
theorem dX8_spell_1 : decode cX8_spell 1 = .ok (.getfield 13, 3) := by decide +kernel
theorem dX8_spell_4 : decode cX8_spell 4 = .ok (.iload_n 1, 1) := by decide +kernel
theorem dX8_spell_5 : decode cX8_spell 5 = .ok (.iload_n 2, 1) := by decide +kernel
theorem dX8_spell_6 : decode cX8_spell 6 = .ok (.iastore, 1) := by decide +kernel
theorem dX8_spell_7 : decode cX8_spell 7 = .ok (.aload_n 0, 1) := by decide +kernel
theorem dX8_spell_8 : decode cX8_spell 8 = .ok (.getfield 13, 3) := by decide +kernel
theorem dX8_spell_11 : decode cX8_spell 11 = .ok (.iload_n 1, 1) := by decide +kernel
theorem dX8_spell_12 : decode cX8_spell 12 = .ok (.iconst 1, 1) := by decide +kernel
theorem dX8_spell_13 : decode cX8_spell 13 = .ok (.iadd, 1) := by decide +kernel
theorem dX8_spell_14 : decode cX8_spell 14 = .ok (.iload_n 3, 1) := by decide +kernel
theorem dX8_spell_15 : decode cX8_spell 15 = .ok (.iastore, 1) := by decide +kernel
theorem dX8_spell_16 : decode cX8_spell 16 = .ok (.aload_n 0, 1) := by decide +kernel
theorem dX8_spell_17 : decode cX8_spell 17 = .ok (.getfield 13, 3) := by decide +kernel
theorem dX8_spell_20 : decode cX8_spell 20 = .ok (.iload_n 1, 1) := by decide +kernel
theorem dX8_spell_21 : decode cX8_spell 21 = .ok (.iconst 2, 1) := by decide +kernel
theorem dX8_spell_22 : decode cX8_spell 22 = .ok (.iadd, 1) := by decide +kernel
theorem dX8_spell_23 : decode cX8_spell 23 = .ok (.iload 4, 2) := by decide +kernel
theorem dX8_spell_25 : decode cX8_spell 25 = .ok (.iastore, 1) := by decide +kernel
theorem dX8_spell_26 : decode cX8_spell 26 = .ok (.aload_n 0, 1) := by decide +kernel
theorem dX8_spell_27 : decode cX8_spell 27 = .ok (.getfield 13, 3) := by decide +kernel
theorem dX8_spell_30 : decode cX8_spell 30 = .ok (.iload_n 1, 1) := by decide +kernel
theorem dX8_spell_31 : decode cX8_spell 31 = .ok (.iconst 3, 1) := by decide +kernel
theorem dX8_spell_32 : decode cX8_spell 32 = .ok (.iadd, 1) := by decide +kernel
theorem dX8_spell_33 : decode cX8_spell 33 = .ok (.iload 5, 2) := by decide +kernel
theorem dX8_spell_35 : decode cX8_spell 35 = .ok (.iastore, 1) := by decide +kernel
theorem dX8_spell_36 : decode cX8_spell 36 = .ok (.aload_n 0, 1) := by decide +kernel
theorem dX8_spell_37 : decode cX8_spell 37 = .ok (.getfield 13, 3) := by decide +kernel
theorem dX8_spell_40 : decode cX8_spell 40 = .ok (.iload_n 1, 1) := by decide +kernel
theorem dX8_spell_41 : decode cX8_spell 41 = .ok (.iconst 4, 1) := by decide +kernel
theorem dX8_spell_42 : decode cX8_spell 42 = .ok (.iadd, 1) := by decide +kernel
theorem dX8_spell_43 : decode cX8_spell 43 = .ok (.iload 6, 2) := by decide +kernel
theorem dX8_spell_45 : decode cX8_spell 45 = .ok (.iastore, 1) := by decide +kernel
theorem dX8_spell_46 : decode cX8_spell 46 = .ok (.aload_n 0, 1) := by decide +kernel
theorem dX8_spell_47 : decode cX8_spell 47 = .ok (.getfield 13, 3) := by decide +kernel
theorem dX8_spell_50 : decode cX8_spell 50 = .ok (.iload_n 1, 1) := by decide +kernel
theorem dX8_spell_51 : decode cX8_spell 51 = .ok (.iconst 5, 1) := by decide +kernel
theorem dX8_spell_52 : decode cX8_spell 52 = .ok (.iadd, 1) := by decide +kernel
theorem dX8_spell_53 : decode cX8_spell 53 = .ok (.iload 7, 2) := by decide +kernel
theorem dX8_spell_55 : decode cX8_spell 55 = .ok (.iastore, 1) := by decide +kernel
theorem dX8_spell_56 : decode cX8_spell 56 = .ok (.aload_n 0, 1) := by decide +kernel
theorem dX8_spell_57 : decode cX8_spell 57 = .ok (.getfield 13, 3) := by decide +kernel
theorem dX8_spell_60 : decode cX8_spell 60 = .ok (.iload_n 1, 1) := by decide +kernel
theorem dX8_spell_61 : decode cX8_spell 61 = .ok (.bipush 6, 2) := by decide +kernel
theorem dX8_spell_63 : decode cX8_spell 63 = .ok (.iadd, 1) := by decide +kernel
theorem dX8_spell_64 : decode cX8_spell 64 = .ok (.iload 8, 2) := by decide +kernel
theorem dX8_spell_66 : decode cX8_spell 66 = .ok (.iastore, 1) := by decide +kernel
theorem dX8_spell_67 : decode cX8_spell 67 = .ok (.aload_n 0, 1) := by decide +kernel
theorem dX8_spell_68 : decode cX8_spell 68 = .ok (.getfield 13, 3) := by decide +kernel
theorem dX8_spell_71 : decode cX8_spell 71 = .ok (.iload_n 1, 1) := by decide +kernel
theorem dX8_spell_72 : decode cX8_spell 72 = .ok (.bipush 7, 2) := by decide +kernel
theorem dX8_spell_74 : decode cX8_spell 74 = .ok (.iadd, 1) := by decide +kernel
theorem dX8_spell_75 : decode cX8_spell 75 = .ok (.iload 9, 2) := by decide +kernel
theorem dX8_spell_77 : decode cX8_spell 77 = .ok (.iastore, 1) := by decide +kernel
theorem dX8_spell_78 : decode cX8_spell 78 = .ok (.return_, 1) := by decide +kernel
theorem dX8_isPart_0 : decode cX8_isPart 0 = .ok (.iload_n 1, 1) := by decide +kernel
theorem dX8_isPart_1 : decode cX8_isPart 1 = .ok (.i2l, 1) := by decide +kernel
theorem dX8_isPart_2 : decode cX8_isPart 2 = .ok (.lconst 0, 1) := by decide +kernel
theorem dX8_isPart_3 : decode cX8_isPart 3 = .ok (.aload_n 0, 1) := by decide +kernel
theorem dX8_isPart_4 : decode cX8_isPart 4 = .ok (.getfield 73, 3) := by decide +kernel
theorem dX8_isPart_7 : decode cX8_isPart 7 = .ok (.iconst 1, 1) := by decide +kernel
theorem dX8_isPart_8 : decode cX8_isPart 8 = .ok (.isub, 1) := by decide +kernel
theorem dX8_isPart_9 : decode cX8_isPart 9 = .ok (.i2l, 1) := by decide +kernel
theorem dX8_isPart_10 : decode cX8_isPart 10 = .ok (.invokestatic 76, 3) := by decide +kernel
theorem dX8_isPart_13 : decode cX8_isPart 13 = .ok (.ireturn, 1) := by decide +kernel
theorem dX8_mostOf_0 : decode cX8_mostOf 0 = .ok (.iload_n 0, 1) := by decide +kernel
theorem dX8_mostOf_1 : decode cX8_mostOf 1 = .ok (.ifCond .eq 8, 3) := by decide +kernel
theorem dX8_mostOf_4 : decode cX8_mostOf 4 = .ok (.iload_n 0, 1) := by decide +kernel
theorem dX8_mostOf_5 : decode cX8_mostOf 5 = .ok (.iconst 2, 1) := by decide +kernel
theorem dX8_mostOf_6 : decode cX8_mostOf 6 = .ok (.if_icmp .ne 8, 3) := by decide +kernel
theorem dX8_mostOf_9 : decode cX8_mostOf 9 = .ok (.bipush 9, 2) := by decide +kernel
theorem dX8_mostOf_11 : decode cX8_mostOf 11 = .ok (.goto 15, 3) := by decide +kernel
theorem dX8_mostOf_14 : decode cX8_mostOf 14 = .ok (.iload_n 0, 1) := by decide +kernel
theorem dX8_mostOf_15 : decode cX8_mostOf 15 = .ok (.iconst 4, 1) := by decide +kernel
theorem dX8_mostOf_16 : decode cX8_mostOf 16 = .ok (.if_icmp .ne 8, 3) := by decide +kernel
theorem dX8_mostOf_19 : decode cX8_mostOf 19 = .ok (.bipush 127, 2) := by decide +kernel
theorem dX8_mostOf_21 : decode cX8_mostOf 21 = .ok (.goto 5, 3) := by decide +kernel
theorem dX8_mostOf_24 : decode cX8_mostOf 24 = .ok (.bipush 99, 2) := by decide +kernel
theorem dX8_mostOf_26 : decode cX8_mostOf 26 = .ok (.ireturn, 1) := by decide +kernel
theorem dX8_set_0 : decode cX8_set 0 = .ok (.iload_n 1, 1) := by decide +kernel
theorem dX8_set_1 : decode cX8_set 1 = .ok (.i2l, 1) := by decide +kernel
theorem dX8_set_2 : decode cX8_set 2 = .ok (.lconst 0, 1) := by decide +kernel
theorem dX8_set_3 : decode cX8_set 3 = .ok (.ldc2_w 80, 3) := by decide +kernel
theorem dX8_set_6 : decode cX8_set 6 = .ok (.invokestatic 76, 3) := by decide +kernel
theorem dX8_set_9 : decode cX8_set 9 = .ok (.ifCond .eq 30, 3) := by decide +kernel
theorem dX8_set_12 : decode cX8_set 12 = .ok (.iload_n 1, 1) := by decide +kernel
theorem dX8_set_13 : decode cX8_set 13 = .ok (.iconst 1, 1) := by decide +kernel
theorem dX8_set_14 : decode cX8_set 14 = .ok (.if_icmp .le 11, 3) := by decide +kernel
theorem dX8_set_17 : decode cX8_set 17 = .ok (.aload_n 0, 1) := by decide +kernel
theorem dX8_set_18 : decode cX8_set 18 = .ok (.iload_n 2, 1) := by decide +kernel
theorem dX8_set_19 : decode cX8_set 19 = .ok (.invokevirtual 82, 3) := by decide +kernel
theorem dX8_set_22 : decode cX8_set 22 = .ok (.ifCond .eq 17, 3) := by decide +kernel
theorem dX8_set_25 : decode cX8_set 25 = .ok (.iload_n 3, 1) := by decide +kernel
theorem dX8_set_26 : decode cX8_set 26 = .ok (.i2l, 1) := by decide +kernel
theorem dX8_set_27 : decode cX8_set 27 = .ok (.lconst 0, 1) := by decide +kernel
theorem dX8_set_28 : decode cX8_set 28 = .ok (.iload_n 1, 1) := by decide +kernel
theorem dX8_set_29 : decode cX8_set 29 = .ok (.invokestatic 86, 3) := by decide +kernel
theorem dX8_set_32 : decode cX8_set 32 = .ok (.i2l, 1) := by decide +kernel
theorem dX8_set_33 : decode cX8_set 33 = .ok (.invokestatic 76, 3) := by decide +kernel
theorem dX8_set_36 : decode cX8_set 36 = .ok (.ifCond .ne 6, 3) := by decide +kernel
theorem dX8_set_39 : decode cX8_set 39 = .ok (.bipush (-2), 2) := by decide +kernel
theorem dX8_set_41 : decode cX8_set 41 = .ok (.ireturn, 1) := by decide +kernel
theorem dX8_set_42 : decode cX8_set 42 = .ok (.aload_n 0, 1) := by decide +kernel
theorem dX8_set_43 : decode cX8_set 43 = .ok (.iload_n 2, 1) := by decide +kernel
theorem dX8_set_44 : decode cX8_set 44 = .ok (.iload_n 1, 1) := by decide +kernel
theorem dX8_set_45 : decode cX8_set 45 = .ok (.invokevirtual 90, 3) := by decide +kernel
theorem dX8_set_48 : decode cX8_set 48 = .ok (.istore 4, 2) := by decide +kernel
theorem dX8_set_50 : decode cX8_set 50 = .ok (.aload_n 0, 1) := by decide +kernel
theorem dX8_set_51 : decode cX8_set 51 = .ok (.iload_n 1, 1) := by decide +kernel
theorem dX8_set_52 : decode cX8_set 52 = .ok (.iload_n 2, 1) := by decide +kernel
theorem dX8_set_53 : decode cX8_set 53 = .ok (.iload_n 3, 1) := by decide +kernel
theorem dX8_set_54 : decode cX8_set 54 = .ok (.invokevirtual 94, 3) := by decide +kernel
theorem dX8_set_57 : decode cX8_set 57 = .ok (.iload 4, 2) := by decide +kernel
theorem dX8_set_59 : decode cX8_set 59 = .ok (.ireturn, 1) := by decide +kernel
theorem dX8_lays_0 : decode cX8_lays 0 = .ok (.iload_n 1, 1) := by decide +kernel
theorem dX8_lays_1 : decode cX8_lays 1 = .ok (.ifCond .ne 11, 3) := by decide +kernel
theorem dX8_lays_4 : decode cX8_lays 4 = .ok (.aload_n 0, 1) := by decide +kernel
theorem dX8_lays_5 : decode cX8_lays 5 = .ok (.iload_n 3, 1) := by decide +kernel
theorem dX8_lays_6 : decode cX8_lays 6 = .ok (.putfield 23, 3) := by decide +kernel
theorem dX8_lays_9 : decode cX8_lays 9 = .ok (.goto 57, 3) := by decide +kernel
theorem dX8_lays_12 : decode cX8_lays 12 = .ok (.iload_n 1, 1) := by decide +kernel
theorem dX8_lays_13 : decode cX8_lays 13 = .ok (.iconst 1, 1) := by decide +kernel
theorem dX8_lays_14 : decode cX8_lays 14 = .ok (.if_icmp .ne 11, 3) := by decide +kernel
theorem dX8_lays_17 : decode cX8_lays 17 = .ok (.aload_n 0, 1) := by decide +kernel
theorem dX8_lays_18 : decode cX8_lays 18 = .ok (.iload_n 3, 1) := by decide +kernel
theorem dX8_lays_19 : decode cX8_lays 19 = .ok (.putfield 26, 3) := by decide +kernel
theorem dX8_lays_22 : decode cX8_lays 22 = .ok (.goto 44, 3) := by decide +kernel
theorem dX8_lays_25 : decode cX8_lays 25 = .ok (.iload_n 1, 1) := by decide +kernel
theorem dX8_lays_26 : decode cX8_lays 26 = .ok (.iconst 5, 1) := by decide +kernel
theorem dX8_lays_27 : decode cX8_lays 27 = .ok (.if_icmp .ge 19, 3) := by decide +kernel
theorem dX8_lays_30 : decode cX8_lays 30 = .ok (.aload_n 0, 1) := by decide +kernel
theorem dX8_lays_31 : decode cX8_lays 31 = .ok (.getfield 32, 3) := by decide +kernel
theorem dX8_lays_34 : decode cX8_lays 34 = .ok (.iconst 3, 1) := by decide +kernel
theorem dX8_lays_35 : decode cX8_lays 35 = .ok (.iload_n 2, 1) := by decide +kernel
theorem dX8_lays_36 : decode cX8_lays 36 = .ok (.imul, 1) := by decide +kernel
theorem dX8_lays_37 : decode cX8_lays 37 = .ok (.iload_n 1, 1) := by decide +kernel
theorem dX8_lays_38 : decode cX8_lays 38 = .ok (.iadd, 1) := by decide +kernel
theorem dX8_lays_39 : decode cX8_lays 39 = .ok (.iconst 2, 1) := by decide +kernel
theorem dX8_lays_40 : decode cX8_lays 40 = .ok (.isub, 1) := by decide +kernel
theorem dX8_lays_41 : decode cX8_lays 41 = .ok (.iload_n 3, 1) := by decide +kernel
theorem dX8_lays_42 : decode cX8_lays 42 = .ok (.iastore, 1) := by decide +kernel
theorem dX8_lays_43 : decode cX8_lays 43 = .ok (.goto 23, 3) := by decide +kernel
theorem dX8_lays_46 : decode cX8_lays 46 = .ok (.iload_n 1, 1) := by decide +kernel
theorem dX8_lays_47 : decode cX8_lays 47 = .ok (.iconst 5, 1) := by decide +kernel
theorem dX8_lays_48 : decode cX8_lays 48 = .ok (.if_icmp .ne 13, 3) := by decide +kernel
theorem dX8_lays_51 : decode cX8_lays 51 = .ok (.aload_n 0, 1) := by decide +kernel
theorem dX8_lays_52 : decode cX8_lays 52 = .ok (.getfield 29, 3) := by decide +kernel
theorem dX8_lays_55 : decode cX8_lays 55 = .ok (.iload_n 2, 1) := by decide +kernel
theorem dX8_lays_56 : decode cX8_lays 56 = .ok (.iload_n 3, 1) := by decide +kernel
theorem dX8_lays_57 : decode cX8_lays 57 = .ok (.iastore, 1) := by decide +kernel
theorem dX8_lays_58 : decode cX8_lays 58 = .ok (.goto 8, 3) := by decide +kernel
theorem dX8_lays_61 : decode cX8_lays 61 = .ok (.aload_n 0, 1) := by decide +kernel
theorem dX8_lays_62 : decode cX8_lays 62 = .ok (.iload_n 3, 1) := by decide +kernel
theorem dX8_lays_63 : decode cX8_lays 63 = .ok (.putfield 98, 3) := by decide +kernel
theorem dX8_lays_66 : decode cX8_lays 66 = .ok (.return_, 1) := by decide +kernel
theorem dX8_part_0 : decode cX8_part 0 = .ok (.iload_n 1, 1) := by decide +kernel
theorem dX8_part_1 : decode cX8_part 1 = .ok (.i2l, 1) := by decide +kernel
theorem dX8_part_2 : decode cX8_part 2 = .ok (.lconst 0, 1) := by decide +kernel
theorem dX8_part_3 : decode cX8_part 3 = .ok (.ldc2_w 101, 3) := by decide +kernel
theorem dX8_part_6 : decode cX8_part 6 = .ok (.invokestatic 76, 3) := by decide +kernel
theorem dX8_part_9 : decode cX8_part 9 = .ok (.ifCond .eq 15, 3) := by decide +kernel
theorem dX8_part_12 : decode cX8_part 12 = .ok (.iload_n 2, 1) := by decide +kernel
theorem dX8_part_13 : decode cX8_part 13 = .ok (.i2l, 1) := by decide +kernel
theorem dX8_part_14 : decode cX8_part 14 = .ok (.lconst 0, 1) := by decide +kernel
theorem dX8_part_15 : decode cX8_part 15 = .ok (.ldc2_w 103, 3) := by decide +kernel
theorem dX8_part_18 : decode cX8_part 18 = .ok (.invokestatic 76, 3) := by decide +kernel
theorem dX8_part_21 : decode cX8_part 21 = .ok (.ifCond .ne 6, 3) := by decide +kernel
theorem dX8_part_24 : decode cX8_part 24 = .ok (.bipush (-2), 2) := by decide +kernel
theorem dX8_part_26 : decode cX8_part 26 = .ok (.ireturn, 1) := by decide +kernel
theorem dX8_part_27 : decode cX8_part 27 = .ok (.aload_n 0, 1) := by decide +kernel
theorem dX8_part_28 : decode cX8_part 28 = .ok (.getfield 73, 3) := by decide +kernel
theorem dX8_part_31 : decode cX8_part 31 = .ok (.bipush 7, 2) := by decide +kernel
theorem dX8_part_33 : decode cX8_part 33 = .ok (.if_icmp .ne 6, 3) := by decide +kernel
theorem dX8_part_36 : decode cX8_part 36 = .ok (.bipush (-4), 2) := by decide +kernel
theorem dX8_part_38 : decode cX8_part 38 = .ok (.ireturn, 1) := by decide +kernel
theorem dX8_part_39 : decode cX8_part 39 = .ok (.aload_n 0, 1) := by decide +kernel
theorem dX8_part_40 : decode cX8_part 40 = .ok (.getfield 29, 3) := by decide +kernel
theorem dX8_part_43 : decode cX8_part 43 = .ok (.aload_n 0, 1) := by decide +kernel
theorem dX8_part_44 : decode cX8_part 44 = .ok (.getfield 73, 3) := by decide +kernel
theorem dX8_part_47 : decode cX8_part 47 = .ok (.iload_n 1, 1) := by decide +kernel
theorem dX8_part_48 : decode cX8_part 48 = .ok (.iastore, 1) := by decide +kernel
theorem dX8_part_49 : decode cX8_part 49 = .ok (.aload_n 0, 1) := by decide +kernel
theorem dX8_part_50 : decode cX8_part 50 = .ok (.getfield 32, 3) := by decide +kernel
theorem dX8_part_53 : decode cX8_part 53 = .ok (.iconst 3, 1) := by decide +kernel
theorem dX8_part_54 : decode cX8_part 54 = .ok (.aload_n 0, 1) := by decide +kernel
theorem dX8_part_55 : decode cX8_part 55 = .ok (.getfield 73, 3) := by decide +kernel
theorem dX8_part_58 : decode cX8_part 58 = .ok (.imul, 1) := by decide +kernel
theorem dX8_part_59 : decode cX8_part 59 = .ok (.iload_n 2, 1) := by decide +kernel
theorem dX8_part_60 : decode cX8_part 60 = .ok (.iastore, 1) := by decide +kernel
theorem dX8_part_61 : decode cX8_part 61 = .ok (.aload_n 0, 1) := by decide +kernel
theorem dX8_part_62 : decode cX8_part 62 = .ok (.getfield 32, 3) := by decide +kernel
theorem dX8_part_65 : decode cX8_part 65 = .ok (.iconst 3, 1) := by decide +kernel
theorem dX8_part_66 : decode cX8_part 66 = .ok (.aload_n 0, 1) := by decide +kernel
theorem dX8_part_67 : decode cX8_part 67 = .ok (.getfield 73, 3) := by decide +kernel
theorem dX8_part_70 : decode cX8_part 70 = .ok (.imul, 1) := by decide +kernel
theorem dX8_part_71 : decode cX8_part 71 = .ok (.iconst 1, 1) := by decide +kernel
theorem dX8_part_72 : decode cX8_part 72 = .ok (.iadd, 1) := by decide +kernel
theorem dX8_part_73 : decode cX8_part 73 = .ok (.bipush 50, 2) := by decide +kernel
theorem dX8_part_75 : decode cX8_part 75 = .ok (.iastore, 1) := by decide +kernel
theorem dX8_part_76 : decode cX8_part 76 = .ok (.aload_n 0, 1) := by decide +kernel
theorem dX8_part_77 : decode cX8_part 77 = .ok (.getfield 32, 3) := by decide +kernel
theorem dX8_part_80 : decode cX8_part 80 = .ok (.iconst 3, 1) := by decide +kernel
theorem dX8_part_81 : decode cX8_part 81 = .ok (.aload_n 0, 1) := by decide +kernel
theorem dX8_part_82 : decode cX8_part 82 = .ok (.getfield 73, 3) := by decide +kernel
theorem dX8_part_85 : decode cX8_part 85 = .ok (.imul, 1) := by decide +kernel
theorem dX8_part_86 : decode cX8_part 86 = .ok (.iconst 2, 1) := by decide +kernel
theorem dX8_part_87 : decode cX8_part 87 = .ok (.iadd, 1) := by decide +kernel
theorem dX8_part_88 : decode cX8_part 88 = .ok (.iconst 0, 1) := by decide +kernel
theorem dX8_part_89 : decode cX8_part 89 = .ok (.iastore, 1) := by decide +kernel
theorem dX8_part_90 : decode cX8_part 90 = .ok (.aload_n 0, 1) := by decide +kernel
theorem dX8_part_91 : decode cX8_part 91 = .ok (.dup, 1) := by decide +kernel
theorem dX8_part_92 : decode cX8_part 92 = .ok (.getfield 73, 3) := by decide +kernel
theorem dX8_part_95 : decode cX8_part 95 = .ok (.iconst 1, 1) := by decide +kernel
theorem dX8_part_96 : decode cX8_part 96 = .ok (.iadd, 1) := by decide +kernel
theorem dX8_part_97 : decode cX8_part 97 = .ok (.putfield 73, 3) := by decide +kernel
theorem dX8_part_100 : decode cX8_part 100 = .ok (.aload_n 0, 1) := by decide +kernel
theorem dX8_part_101 : decode cX8_part 101 = .ok (.getfield 73, 3) := by decide +kernel
theorem dX8_part_104 : decode cX8_part 104 = .ok (.iconst 1, 1) := by decide +kernel
theorem dX8_part_105 : decode cX8_part 105 = .ok (.isub, 1) := by decide +kernel
theorem dX8_part_106 : decode cX8_part 106 = .ok (.ireturn, 1) := by decide +kernel
theorem dX8_told_0 : decode cX8_told 0 = .ok (.iload_n 2, 1) := by decide +kernel
theorem dX8_told_1 : decode cX8_told 1 = .ok (.i2l, 1) := by decide +kernel
theorem dX8_told_2 : decode cX8_told 2 = .ok (.lconst 0, 1) := by decide +kernel
theorem dX8_told_3 : decode cX8_told 3 = .ok (.ldc2_w 103, 3) := by decide +kernel
theorem dX8_told_6 : decode cX8_told 6 = .ok (.invokestatic 76, 3) := by decide +kernel
theorem dX8_told_9 : decode cX8_told 9 = .ok (.ifCond .eq 16, 3) := by decide +kernel
theorem dX8_told_12 : decode cX8_told 12 = .ok (.iload_n 2, 1) := by decide +kernel
theorem dX8_told_13 : decode cX8_told 13 = .ok (.iconst 1, 1) := by decide +kernel
theorem dX8_told_14 : decode cX8_told 14 = .ok (.if_icmp .le 14, 3) := by decide +kernel
theorem dX8_told_17 : decode cX8_told 17 = .ok (.aload_n 0, 1) := by decide +kernel
theorem dX8_told_18 : decode cX8_told 18 = .ok (.iload_n 1, 1) := by decide +kernel
theorem dX8_told_19 : decode cX8_told 19 = .ok (.invokevirtual 82, 3) := by decide +kernel
theorem dX8_told_22 : decode cX8_told 22 = .ok (.ifCond .ne 6, 3) := by decide +kernel
theorem dX8_told_25 : decode cX8_told 25 = .ok (.bipush (-2), 2) := by decide +kernel
theorem dX8_told_27 : decode cX8_told 27 = .ok (.ireturn, 1) := by decide +kernel
theorem dX8_told_28 : decode cX8_told 28 = .ok (.iload_n 2, 1) := by decide +kernel
theorem dX8_told_29 : decode cX8_told 29 = .ok (.iconst 5, 1) := by decide +kernel
theorem dX8_told_30 : decode cX8_told 30 = .ok (.if_icmp .ge 39, 3) := by decide +kernel
theorem dX8_told_33 : decode cX8_told 33 = .ok (.iload_n 2, 1) := by decide +kernel
theorem dX8_told_34 : decode cX8_told 34 = .ok (.ifCond .ne 10, 3) := by decide +kernel
theorem dX8_told_37 : decode cX8_told 37 = .ok (.aload_n 0, 1) := by decide +kernel
theorem dX8_told_38 : decode cX8_told 38 = .ok (.getfield 23, 3) := by decide +kernel
theorem dX8_told_41 : decode cX8_told 41 = .ok (.goto 27, 3) := by decide +kernel
theorem dX8_told_44 : decode cX8_told 44 = .ok (.iload_n 2, 1) := by decide +kernel
theorem dX8_told_45 : decode cX8_told 45 = .ok (.iconst 1, 1) := by decide +kernel
theorem dX8_told_46 : decode cX8_told 46 = .ok (.if_icmp .ne 10, 3) := by decide +kernel
theorem dX8_told_49 : decode cX8_told 49 = .ok (.aload_n 0, 1) := by decide +kernel
theorem dX8_told_50 : decode cX8_told 50 = .ok (.getfield 26, 3) := by decide +kernel
theorem dX8_told_53 : decode cX8_told 53 = .ok (.goto 15, 3) := by decide +kernel
theorem dX8_told_56 : decode cX8_told 56 = .ok (.aload_n 0, 1) := by decide +kernel
theorem dX8_told_57 : decode cX8_told 57 = .ok (.getfield 32, 3) := by decide +kernel
theorem dX8_told_60 : decode cX8_told 60 = .ok (.iconst 3, 1) := by decide +kernel
theorem dX8_told_61 : decode cX8_told 61 = .ok (.iload_n 1, 1) := by decide +kernel
theorem dX8_told_62 : decode cX8_told 62 = .ok (.imul, 1) := by decide +kernel
theorem dX8_told_63 : decode cX8_told 63 = .ok (.iload_n 2, 1) := by decide +kernel
theorem dX8_told_64 : decode cX8_told 64 = .ok (.iadd, 1) := by decide +kernel
theorem dX8_told_65 : decode cX8_told 65 = .ok (.iconst 2, 1) := by decide +kernel
theorem dX8_told_66 : decode cX8_told 66 = .ok (.isub, 1) := by decide +kernel
theorem dX8_told_67 : decode cX8_told 67 = .ok (.iaload, 1) := by decide +kernel
theorem dX8_told_68 : decode cX8_told 68 = .ok (.ireturn, 1) := by decide +kernel
theorem dX8_told_69 : decode cX8_told 69 = .ok (.iload_n 2, 1) := by decide +kernel
theorem dX8_told_70 : decode cX8_told 70 = .ok (.bipush 7, 2) := by decide +kernel
theorem dX8_told_72 : decode cX8_told 72 = .ok (.if_icmp .ge 23, 3) := by decide +kernel
theorem dX8_told_75 : decode cX8_told 75 = .ok (.iload_n 2, 1) := by decide +kernel
theorem dX8_told_76 : decode cX8_told 76 = .ok (.iconst 5, 1) := by decide +kernel
theorem dX8_told_77 : decode cX8_told 77 = .ok (.if_icmp .ne 12, 3) := by decide +kernel
theorem dX8_told_80 : decode cX8_told 80 = .ok (.aload_n 0, 1) := by decide +kernel
theorem dX8_told_81 : decode cX8_told 81 = .ok (.getfield 29, 3) := by decide +kernel
theorem dX8_told_84 : decode cX8_told 84 = .ok (.iload_n 1, 1) := by decide +kernel
theorem dX8_told_85 : decode cX8_told 85 = .ok (.iaload, 1) := by decide +kernel
theorem dX8_told_86 : decode cX8_told 86 = .ok (.goto 8, 3) := by decide +kernel
theorem dX8_told_89 : decode cX8_told 89 = .ok (.aload_n 0, 1) := by decide +kernel
theorem dX8_told_90 : decode cX8_told 90 = .ok (.iload_n 1, 1) := by decide +kernel
theorem dX8_told_91 : decode cX8_told 91 = .ok (.invokevirtual 105, 3) := by decide +kernel
theorem dX8_told_94 : decode cX8_told 94 = .ok (.ireturn, 1) := by decide +kernel
theorem dX8_told_95 : decode cX8_told 95 = .ok (.aload_n 0, 1) := by decide +kernel
theorem dX8_told_96 : decode cX8_told 96 = .ok (.invokevirtual 108, 3) := by decide +kernel
theorem dX8_told_99 : decode cX8_told 99 = .ok (.iload_n 2, 1) := by decide +kernel
theorem dX8_told_100 : decode cX8_told 100 = .ok (.bipush 7, 2) := by decide +kernel
theorem dX8_told_102 : decode cX8_told 102 = .ok (.if_icmp .ne 11, 3) := by decide +kernel
theorem dX8_told_105 : decode cX8_told 105 = .ok (.aload_n 0, 1) := by decide +kernel
theorem dX8_told_106 : decode cX8_told 106 = .ok (.iload_n 1, 1) := by decide +kernel
theorem dX8_told_107 : decode cX8_told 107 = .ok (.invokevirtual 111, 3) := by decide +kernel
theorem dX8_told_110 : decode cX8_told 110 = .ok (.goto 22, 3) := by decide +kernel
theorem dX8_told_113 : decode cX8_told 113 = .ok (.iload_n 2, 1) := by decide +kernel
theorem dX8_told_114 : decode cX8_told 114 = .ok (.bipush 8, 2) := by decide +kernel
theorem dX8_told_116 : decode cX8_told 116 = .ok (.if_icmp .ne 11, 3) := by decide +kernel
theorem dX8_told_119 : decode cX8_told 119 = .ok (.aload_n 0, 1) := by decide +kernel
theorem dX8_told_120 : decode cX8_told 120 = .ok (.iload_n 1, 1) := by decide +kernel
theorem dX8_told_121 : decode cX8_told 121 = .ok (.invokevirtual 114, 3) := by decide +kernel
theorem dX8_told_124 : decode cX8_told 124 = .ok (.goto 8, 3) := by decide +kernel
theorem dX8_told_127 : decode cX8_told 127 = .ok (.aload_n 0, 1) := by decide +kernel
theorem dX8_told_128 : decode cX8_told 128 = .ok (.iload_n 1, 1) := by decide +kernel
theorem dX8_told_129 : decode cX8_told 129 = .ok (.invokevirtual 117, 3) := by decide +kernel
theorem dX8_told_132 : decode cX8_told 132 = .ok (.ireturn, 1) := by decide +kernel
theorem dX8_showsOf_0 : decode cX8_showsOf 0 = .ok (.aload_n 0, 1) := by decide +kernel
theorem dX8_showsOf_1 : decode cX8_showsOf 1 = .ok (.getfield 29, 3) := by decide +kernel
theorem dX8_showsOf_4 : decode cX8_showsOf 4 = .ok (.iload_n 1, 1) := by decide +kernel
theorem dX8_showsOf_5 : decode cX8_showsOf 5 = .ok (.iaload, 1) := by decide +kernel
theorem dX8_showsOf_6 : decode cX8_showsOf 6 = .ok (.iconst 1, 1) := by decide +kernel
theorem dX8_showsOf_7 : decode cX8_showsOf 7 = .ok (.if_icmp .ne 7, 3) := by decide +kernel
theorem dX8_showsOf_10 : decode cX8_showsOf 10 = .ok (.iconst 3, 1) := by decide +kernel
theorem dX8_showsOf_11 : decode cX8_showsOf 11 = .ok (.goto 28, 3) := by decide +kernel
theorem dX8_showsOf_14 : decode cX8_showsOf 14 = .ok (.aload_n 0, 1) := by decide +kernel
theorem dX8_showsOf_15 : decode cX8_showsOf 15 = .ok (.getfield 29, 3) := by decide +kernel
theorem dX8_showsOf_18 : decode cX8_showsOf 18 = .ok (.iload_n 1, 1) := by decide +kernel
theorem dX8_showsOf_19 : decode cX8_showsOf 19 = .ok (.iaload, 1) := by decide +kernel
theorem dX8_showsOf_20 : decode cX8_showsOf 20 = .ok (.iconst 3, 1) := by decide +kernel
theorem dX8_showsOf_21 : decode cX8_showsOf 21 = .ok (.if_icmp .eq 13, 3) := by decide +kernel
theorem dX8_showsOf_24 : decode cX8_showsOf 24 = .ok (.aload_n 0, 1) := by decide +kernel
theorem dX8_showsOf_25 : decode cX8_showsOf 25 = .ok (.getfield 29, 3) := by decide +kernel
theorem dX8_showsOf_28 : decode cX8_showsOf 28 = .ok (.iload_n 1, 1) := by decide +kernel
theorem dX8_showsOf_29 : decode cX8_showsOf 29 = .ok (.iaload, 1) := by decide +kernel
theorem dX8_showsOf_30 : decode cX8_showsOf 30 = .ok (.iconst 4, 1) := by decide +kernel
theorem dX8_showsOf_31 : decode cX8_showsOf 31 = .ok (.if_icmp .ne 7, 3) := by decide +kernel
theorem dX8_showsOf_34 : decode cX8_showsOf 34 = .ok (.iconst 2, 1) := by decide +kernel
theorem dX8_showsOf_35 : decode cX8_showsOf 35 = .ok (.goto 4, 3) := by decide +kernel
theorem dX8_showsOf_38 : decode cX8_showsOf 38 = .ok (.iconst 1, 1) := by decide +kernel
theorem dX8_showsOf_39 : decode cX8_showsOf 39 = .ok (.ireturn, 1) := by decide +kernel
theorem dX8_feed_0 : decode cX8_feed 0 = .ok (.iload_n 1, 1) := by decide +kernel
theorem dX8_feed_1 : decode cX8_feed 1 = .ok (.i2l, 1) := by decide +kernel
theorem dX8_feed_2 : decode cX8_feed 2 = .ok (.lconst 0, 1) := by decide +kernel
theorem dX8_feed_3 : decode cX8_feed 3 = .ok (.ldc2_w 120, 3) := by decide +kernel
theorem dX8_feed_6 : decode cX8_feed 6 = .ok (.invokestatic 76, 3) := by decide +kernel
theorem dX8_feed_9 : decode cX8_feed 9 = .ok (.ifCond .ne 6, 3) := by decide +kernel
theorem dX8_feed_12 : decode cX8_feed 12 = .ok (.bipush (-2), 2) := by decide +kernel
theorem dX8_feed_14 : decode cX8_feed 14 = .ok (.ireturn, 1) := by decide +kernel
theorem dX8_feed_15 : decode cX8_feed 15 = .ok (.aload_n 0, 1) := by decide +kernel
theorem dX8_feed_16 : decode cX8_feed 16 = .ok (.getfield 122, 3) := by decide +kernel
theorem dX8_feed_19 : decode cX8_feed 19 = .ok (.sipush 160, 3) := by decide +kernel
theorem dX8_feed_22 : decode cX8_feed 22 = .ok (.if_icmp .ne 6, 3) := by decide +kernel
theorem dX8_feed_25 : decode cX8_feed 25 = .ok (.bipush (-4), 2) := by decide +kernel
theorem dX8_feed_27 : decode cX8_feed 27 = .ok (.ireturn, 1) := by decide +kernel
theorem dX8_feed_28 : decode cX8_feed 28 = .ok (.aload_n 0, 1) := by decide +kernel
theorem dX8_feed_29 : decode cX8_feed 29 = .ok (.getfield 20, 3) := by decide +kernel
theorem dX8_feed_32 : decode cX8_feed 32 = .ok (.aload_n 0, 1) := by decide +kernel
theorem dX8_feed_33 : decode cX8_feed 33 = .ok (.getfield 122, 3) := by decide +kernel
theorem dX8_feed_36 : decode cX8_feed 36 = .ok (.iload_n 1, 1) := by decide +kernel
theorem dX8_feed_37 : decode cX8_feed 37 = .ok (.iastore, 1) := by decide +kernel
theorem dX8_feed_38 : decode cX8_feed 38 = .ok (.aload_n 0, 1) := by decide +kernel
theorem dX8_feed_39 : decode cX8_feed 39 = .ok (.dup, 1) := by decide +kernel
theorem dX8_feed_40 : decode cX8_feed 40 = .ok (.getfield 122, 3) := by decide +kernel
theorem dX8_feed_43 : decode cX8_feed 43 = .ok (.iconst 1, 1) := by decide +kernel
theorem dX8_feed_44 : decode cX8_feed 44 = .ok (.iadd, 1) := by decide +kernel
theorem dX8_feed_45 : decode cX8_feed 45 = .ok (.putfield 122, 3) := by decide +kernel
theorem dX8_feed_48 : decode cX8_feed 48 = .ok (.aload_n 0, 1) := by decide +kernel
theorem dX8_feed_49 : decode cX8_feed 49 = .ok (.getfield 122, 3) := by decide +kernel
theorem dX8_feed_52 : decode cX8_feed 52 = .ok (.ireturn, 1) := by decide +kernel
theorem dX8_byteAt_0 : decode cX8_byteAt 0 = .ok (.iload_n 1, 1) := by decide +kernel
theorem dX8_byteAt_1 : decode cX8_byteAt 1 = .ok (.aload_n 0, 1) := by decide +kernel
theorem dX8_byteAt_2 : decode cX8_byteAt 2 = .ok (.getfield 125, 3) := by decide +kernel
theorem dX8_byteAt_5 : decode cX8_byteAt 5 = .ok (.if_icmp .ge 17, 3) := by decide +kernel
theorem dX8_byteAt_8 : decode cX8_byteAt 8 = .ok (.aload_n 0, 1) := by decide +kernel
theorem dX8_byteAt_9 : decode cX8_byteAt 9 = .ok (.getfield 13, 3) := by decide +kernel
theorem dX8_byteAt_12 : decode cX8_byteAt 12 = .ok (.aload_n 0, 1) := by decide +kernel
theorem dX8_byteAt_13 : decode cX8_byteAt 13 = .ok (.getfield 128, 3) := by decide +kernel
theorem dX8_byteAt_16 : decode cX8_byteAt 16 = .ok (.iload_n 1, 1) := by decide +kernel
theorem dX8_byteAt_17 : decode cX8_byteAt 17 = .ok (.iadd, 1) := by decide +kernel
theorem dX8_byteAt_18 : decode cX8_byteAt 18 = .ok (.iaload, 1) := by decide +kernel
theorem dX8_byteAt_19 : decode cX8_byteAt 19 = .ok (.goto 4, 3) := by decide +kernel
theorem dX8_byteAt_22 : decode cX8_byteAt 22 = .ok (.iconst (-1), 1) := by decide +kernel
theorem dX8_byteAt_23 : decode cX8_byteAt 23 = .ok (.ireturn, 1) := by decide +kernel
theorem dX8_next_0 : decode cX8_next 0 = .ok (.aload_n 0, 1) := by decide +kernel
theorem dX8_next_1 : decode cX8_next 1 = .ok (.aload_n 0, 1) := by decide +kernel
theorem dX8_next_2 : decode cX8_next 2 = .ok (.getfield 131, 3) := by decide +kernel
theorem dX8_next_5 : decode cX8_next 5 = .ok (.invokevirtual 134, 3) := by decide +kernel
theorem dX8_next_8 : decode cX8_next 8 = .ok (.bipush 32, 2) := by decide +kernel
theorem dX8_next_10 : decode cX8_next 10 = .ok (.if_icmp .eq 16, 3) := by decide +kernel
theorem dX8_next_13 : decode cX8_next 13 = .ok (.aload_n 0, 1) := by decide +kernel
theorem dX8_next_14 : decode cX8_next 14 = .ok (.aload_n 0, 1) := by decide +kernel
theorem dX8_next_15 : decode cX8_next 15 = .ok (.getfield 131, 3) := by decide +kernel
theorem dX8_next_18 : decode cX8_next 18 = .ok (.invokevirtual 134, 3) := by decide +kernel
theorem dX8_next_21 : decode cX8_next 21 = .ok (.bipush 10, 2) := by decide +kernel
theorem dX8_next_23 : decode cX8_next 23 = .ok (.if_icmp .ne 16, 3) := by decide +kernel
theorem dX8_next_26 : decode cX8_next 26 = .ok (.aload_n 0, 1) := by decide +kernel
theorem dX8_next_27 : decode cX8_next 27 = .ok (.dup, 1) := by decide +kernel
theorem dX8_next_28 : decode cX8_next 28 = .ok (.getfield 131, 3) := by decide +kernel
theorem dX8_next_31 : decode cX8_next 31 = .ok (.iconst 1, 1) := by decide +kernel
theorem dX8_next_32 : decode cX8_next 32 = .ok (.iadd, 1) := by decide +kernel
theorem dX8_next_33 : decode cX8_next 33 = .ok (.putfield 131, 3) := by decide +kernel
theorem dX8_next_36 : decode cX8_next 36 = .ok (.goto (-36), 3) := by decide +kernel
theorem dX8_next_39 : decode cX8_next 39 = .ok (.aload_n 0, 1) := by decide +kernel
theorem dX8_next_40 : decode cX8_next 40 = .ok (.aload_n 0, 1) := by decide +kernel
theorem dX8_next_41 : decode cX8_next 41 = .ok (.getfield 131, 3) := by decide +kernel
theorem dX8_next_44 : decode cX8_next 44 = .ok (.putfield 137, 3) := by decide +kernel
theorem dX8_next_47 : decode cX8_next 47 = .ok (.aload_n 0, 1) := by decide +kernel
theorem dX8_next_48 : decode cX8_next 48 = .ok (.aload_n 0, 1) := by decide +kernel
theorem dX8_next_49 : decode cX8_next 49 = .ok (.getfield 131, 3) := by decide +kernel
theorem dX8_next_52 : decode cX8_next 52 = .ok (.invokevirtual 134, 3) := by decide +kernel
theorem dX8_next_55 : decode cX8_next 55 = .ok (.istore_n 1, 1) := by decide +kernel
theorem dX8_next_56 : decode cX8_next 56 = .ok (.aload_n 0, 1) := by decide +kernel
theorem dX8_next_57 : decode cX8_next 57 = .ok (.iconst 4, 1) := by decide +kernel
theorem dX8_next_58 : decode cX8_next 58 = .ok (.putfield 140, 3) := by decide +kernel
theorem dX8_next_61 : decode cX8_next 61 = .ok (.iload_n 1, 1) := by decide +kernel
theorem dX8_next_62 : decode cX8_next 62 = .ok (.ifCond .ge 19, 3) := by decide +kernel
theorem dX8_next_65 : decode cX8_next 65 = .ok (.aload_n 0, 1) := by decide +kernel
theorem dX8_next_66 : decode cX8_next 66 = .ok (.iconst 0, 1) := by decide +kernel
theorem dX8_next_67 : decode cX8_next 67 = .ok (.putfield 140, 3) := by decide +kernel
theorem dX8_next_70 : decode cX8_next 70 = .ok (.aload_n 0, 1) := by decide +kernel
theorem dX8_next_71 : decode cX8_next 71 = .ok (.aload_n 0, 1) := by decide +kernel
theorem dX8_next_72 : decode cX8_next 72 = .ok (.getfield 125, 3) := by decide +kernel
theorem dX8_next_75 : decode cX8_next 75 = .ok (.putfield 137, 3) := by decide +kernel
theorem dX8_next_78 : decode cX8_next 78 = .ok (.goto 243, 3) := by decide +kernel
theorem dX8_next_81 : decode cX8_next 81 = .ok (.iload_n 1, 1) := by decide +kernel
theorem dX8_next_82 : decode cX8_next 82 = .ok (.i2l, 1) := by decide +kernel
theorem dX8_next_83 : decode cX8_next 83 = .ok (.ldc2_w 143, 3) := by decide +kernel
theorem dX8_next_86 : decode cX8_next 86 = .ok (.ldc2_w 145, 3) := by decide +kernel
theorem dX8_next_89 : decode cX8_next 89 = .ok (.invokestatic 76, 3) := by decide +kernel
theorem dX8_next_92 : decode cX8_next 92 = .ok (.ifCond .eq 42, 3) := by decide +kernel
theorem dX8_next_95 : decode cX8_next 95 = .ok (.aload_n 0, 1) := by decide +kernel
theorem dX8_next_96 : decode cX8_next 96 = .ok (.iconst 1, 1) := by decide +kernel
theorem dX8_next_97 : decode cX8_next 97 = .ok (.putfield 140, 3) := by decide +kernel
theorem dX8_next_100 : decode cX8_next 100 = .ok (.aload_n 0, 1) := by decide +kernel
theorem dX8_next_101 : decode cX8_next 101 = .ok (.aload_n 0, 1) := by decide +kernel
theorem dX8_next_102 : decode cX8_next 102 = .ok (.getfield 131, 3) := by decide +kernel
theorem dX8_next_105 : decode cX8_next 105 = .ok (.invokevirtual 134, 3) := by decide +kernel
theorem dX8_next_108 : decode cX8_next 108 = .ok (.i2l, 1) := by decide +kernel
theorem dX8_next_109 : decode cX8_next 109 = .ok (.ldc2_w 143, 3) := by decide +kernel
theorem dX8_next_112 : decode cX8_next 112 = .ok (.ldc2_w 145, 3) := by decide +kernel
theorem dX8_next_115 : decode cX8_next 115 = .ok (.invokestatic 76, 3) := by decide +kernel
theorem dX8_next_118 : decode cX8_next 118 = .ok (.ifCond .eq 203, 3) := by decide +kernel
theorem dX8_next_121 : decode cX8_next 121 = .ok (.aload_n 0, 1) := by decide +kernel
theorem dX8_next_122 : decode cX8_next 122 = .ok (.dup, 1) := by decide +kernel
theorem dX8_next_123 : decode cX8_next 123 = .ok (.getfield 131, 3) := by decide +kernel
theorem dX8_next_126 : decode cX8_next 126 = .ok (.iconst 1, 1) := by decide +kernel
theorem dX8_next_127 : decode cX8_next 127 = .ok (.iadd, 1) := by decide +kernel
theorem dX8_next_128 : decode cX8_next 128 = .ok (.putfield 131, 3) := by decide +kernel
theorem dX8_next_131 : decode cX8_next 131 = .ok (.goto (-31), 3) := by decide +kernel
theorem dX8_next_134 : decode cX8_next 134 = .ok (.iload_n 1, 1) := by decide +kernel
theorem dX8_next_135 : decode cX8_next 135 = .ok (.i2l, 1) := by decide +kernel
theorem dX8_next_136 : decode cX8_next 136 = .ok (.ldc2_w 147, 3) := by decide +kernel
theorem dX8_next_139 : decode cX8_next 139 = .ok (.ldc2_w 149, 3) := by decide +kernel
theorem dX8_next_142 : decode cX8_next 142 = .ok (.invokestatic 76, 3) := by decide +kernel
theorem dX8_next_145 : decode cX8_next 145 = .ok (.ifCond .eq 107, 3) := by decide +kernel
theorem dX8_next_148 : decode cX8_next 148 = .ok (.aload_n 0, 1) := by decide +kernel
theorem dX8_next_149 : decode cX8_next 149 = .ok (.iconst 2, 1) := by decide +kernel
theorem dX8_next_150 : decode cX8_next 150 = .ok (.putfield 140, 3) := by decide +kernel
theorem dX8_next_153 : decode cX8_next 153 = .ok (.aload_n 0, 1) := by decide +kernel
theorem dX8_next_154 : decode cX8_next 154 = .ok (.lconst 0, 1) := by decide +kernel
theorem dX8_next_155 : decode cX8_next 155 = .ok (.putfield 151, 3) := by decide +kernel
theorem dX8_next_158 : decode cX8_next 158 = .ok (.iconst 0, 1) := by decide +kernel
theorem dX8_next_159 : decode cX8_next 159 = .ok (.istore_n 2, 1) := by decide +kernel
theorem dX8_next_160 : decode cX8_next 160 = .ok (.aload_n 0, 1) := by decide +kernel
theorem dX8_next_161 : decode cX8_next 161 = .ok (.aload_n 0, 1) := by decide +kernel
theorem dX8_next_162 : decode cX8_next 162 = .ok (.getfield 131, 3) := by decide +kernel
theorem dX8_next_165 : decode cX8_next 165 = .ok (.invokevirtual 134, 3) := by decide +kernel
theorem dX8_next_168 : decode cX8_next 168 = .ok (.i2l, 1) := by decide +kernel
theorem dX8_next_169 : decode cX8_next 169 = .ok (.ldc2_w 147, 3) := by decide +kernel
theorem dX8_next_172 : decode cX8_next 172 = .ok (.ldc2_w 149, 3) := by decide +kernel
theorem dX8_next_175 : decode cX8_next 175 = .ok (.invokestatic 76, 3) := by decide +kernel
theorem dX8_next_178 : decode cX8_next 178 = .ok (.ifCond .eq 57, 3) := by decide +kernel
theorem dX8_next_181 : decode cX8_next 181 = .ok (.aload_n 0, 1) := by decide +kernel
theorem dX8_next_182 : decode cX8_next 182 = .ok (.iload_n 2, 1) := by decide +kernel
theorem dX8_next_183 : decode cX8_next 183 = .ok (.iconst 4, 1) := by decide +kernel
theorem dX8_next_184 : decode cX8_next 184 = .ok (.if_icmp .ge 28, 3) := by decide +kernel
theorem dX8_next_187 : decode cX8_next 187 = .ok (.ldc2_w 155, 3) := by decide +kernel
theorem dX8_next_190 : decode cX8_next 190 = .ok (.aload_n 0, 1) := by decide +kernel
theorem dX8_next_191 : decode cX8_next 191 = .ok (.getfield 151, 3) := by decide +kernel
theorem dX8_next_194 : decode cX8_next 194 = .ok (.lmul, 1) := by decide +kernel
theorem dX8_next_195 : decode cX8_next 195 = .ok (.aload_n 0, 1) := by decide +kernel
theorem dX8_next_196 : decode cX8_next 196 = .ok (.aload_n 0, 1) := by decide +kernel
theorem dX8_next_197 : decode cX8_next 197 = .ok (.getfield 131, 3) := by decide +kernel
theorem dX8_next_200 : decode cX8_next 200 = .ok (.invokevirtual 134, 3) := by decide +kernel
theorem dX8_next_203 : decode cX8_next 203 = .ok (.i2l, 1) := by decide +kernel
theorem dX8_next_204 : decode cX8_next 204 = .ok (.ladd, 1) := by decide +kernel
theorem dX8_next_205 : decode cX8_next 205 = .ok (.ldc2_w 147, 3) := by decide +kernel
theorem dX8_next_208 : decode cX8_next 208 = .ok (.lsub, 1) := by decide +kernel
theorem dX8_next_209 : decode cX8_next 209 = .ok (.goto 7, 3) := by decide +kernel
theorem dX8_next_212 : decode cX8_next 212 = .ok (.aload_n 0, 1) := by decide +kernel
theorem dX8_next_213 : decode cX8_next 213 = .ok (.getfield 151, 3) := by decide +kernel
theorem dX8_next_216 : decode cX8_next 216 = .ok (.putfield 151, 3) := by decide +kernel
theorem dX8_next_219 : decode cX8_next 219 = .ok (.iinc 2 1, 3) := by decide +kernel
theorem dX8_next_222 : decode cX8_next 222 = .ok (.aload_n 0, 1) := by decide +kernel
theorem dX8_next_223 : decode cX8_next 223 = .ok (.dup, 1) := by decide +kernel
theorem dX8_next_224 : decode cX8_next 224 = .ok (.getfield 131, 3) := by decide +kernel
theorem dX8_next_227 : decode cX8_next 227 = .ok (.iconst 1, 1) := by decide +kernel
theorem dX8_next_228 : decode cX8_next 228 = .ok (.iadd, 1) := by decide +kernel
theorem dX8_next_229 : decode cX8_next 229 = .ok (.putfield 131, 3) := by decide +kernel
theorem dX8_next_232 : decode cX8_next 232 = .ok (.goto (-72), 3) := by decide +kernel
theorem dX8_next_235 : decode cX8_next 235 = .ok (.aload_n 0, 1) := by decide +kernel
theorem dX8_next_236 : decode cX8_next 236 = .ok (.iload_n 2, 1) := by decide +kernel
theorem dX8_next_237 : decode cX8_next 237 = .ok (.iconst 4, 1) := by decide +kernel
theorem dX8_next_238 : decode cX8_next 238 = .ok (.if_icmp .le 7, 3) := by decide +kernel
theorem dX8_next_241 : decode cX8_next 241 = .ok (.iconst 4, 1) := by decide +kernel
theorem dX8_next_242 : decode cX8_next 242 = .ok (.goto 4, 3) := by decide +kernel
theorem dX8_next_245 : decode cX8_next 245 = .ok (.iconst 2, 1) := by decide +kernel
theorem dX8_next_246 : decode cX8_next 246 = .ok (.putfield 140, 3) := by decide +kernel
theorem dX8_next_249 : decode cX8_next 249 = .ok (.goto 72, 3) := by decide +kernel
theorem dX8_next_252 : decode cX8_next 252 = .ok (.iload_n 1, 1) := by decide +kernel
theorem dX8_next_253 : decode cX8_next 253 = .ok (.bipush 40, 2) := by decide +kernel
theorem dX8_next_255 : decode cX8_next 255 = .ok (.if_icmp .eq 45, 3) := by decide +kernel
theorem dX8_next_258 : decode cX8_next 258 = .ok (.iload_n 1, 1) := by decide +kernel
theorem dX8_next_259 : decode cX8_next 259 = .ok (.bipush 41, 2) := by decide +kernel
theorem dX8_next_261 : decode cX8_next 261 = .ok (.if_icmp .eq 39, 3) := by decide +kernel
theorem dX8_next_264 : decode cX8_next 264 = .ok (.iload_n 1, 1) := by decide +kernel
theorem dX8_next_265 : decode cX8_next 265 = .ok (.bipush 59, 2) := by decide +kernel
theorem dX8_next_267 : decode cX8_next 267 = .ok (.if_icmp .eq 33, 3) := by decide +kernel
theorem dX8_next_270 : decode cX8_next 270 = .ok (.iload_n 1, 1) := by decide +kernel
theorem dX8_next_271 : decode cX8_next 271 = .ok (.bipush 43, 2) := by decide +kernel
theorem dX8_next_273 : decode cX8_next 273 = .ok (.if_icmp .eq 27, 3) := by decide +kernel
theorem dX8_next_276 : decode cX8_next 276 = .ok (.iload_n 1, 1) := by decide +kernel
theorem dX8_next_277 : decode cX8_next 277 = .ok (.bipush 45, 2) := by decide +kernel
theorem dX8_next_279 : decode cX8_next 279 = .ok (.if_icmp .eq 21, 3) := by decide +kernel
theorem dX8_next_282 : decode cX8_next 282 = .ok (.iload_n 1, 1) := by decide +kernel
theorem dX8_next_283 : decode cX8_next 283 = .ok (.bipush 42, 2) := by decide +kernel
theorem dX8_next_285 : decode cX8_next 285 = .ok (.if_icmp .eq 15, 3) := by decide +kernel
theorem dX8_next_288 : decode cX8_next 288 = .ok (.iload_n 1, 1) := by decide +kernel
theorem dX8_next_289 : decode cX8_next 289 = .ok (.bipush 60, 2) := by decide +kernel
theorem dX8_next_291 : decode cX8_next 291 = .ok (.if_icmp .eq 9, 3) := by decide +kernel
theorem dX8_next_294 : decode cX8_next 294 = .ok (.iload_n 1, 1) := by decide +kernel
theorem dX8_next_295 : decode cX8_next 295 = .ok (.bipush 61, 2) := by decide +kernel
theorem dX8_next_297 : decode cX8_next 297 = .ok (.if_icmp .ne 24, 3) := by decide +kernel
theorem dX8_next_300 : decode cX8_next 300 = .ok (.aload_n 0, 1) := by decide +kernel
theorem dX8_next_301 : decode cX8_next 301 = .ok (.iconst 3, 1) := by decide +kernel
theorem dX8_next_302 : decode cX8_next 302 = .ok (.putfield 140, 3) := by decide +kernel
theorem dX8_next_305 : decode cX8_next 305 = .ok (.aload_n 0, 1) := by decide +kernel
theorem dX8_next_306 : decode cX8_next 306 = .ok (.iload_n 1, 1) := by decide +kernel
theorem dX8_next_307 : decode cX8_next 307 = .ok (.i2l, 1) := by decide +kernel
theorem dX8_next_308 : decode cX8_next 308 = .ok (.putfield 151, 3) := by decide +kernel
theorem dX8_next_311 : decode cX8_next 311 = .ok (.aload_n 0, 1) := by decide +kernel
theorem dX8_next_312 : decode cX8_next 312 = .ok (.dup, 1) := by decide +kernel
theorem dX8_next_313 : decode cX8_next 313 = .ok (.getfield 131, 3) := by decide +kernel
theorem dX8_next_316 : decode cX8_next 316 = .ok (.iconst 1, 1) := by decide +kernel
theorem dX8_next_317 : decode cX8_next 317 = .ok (.iadd, 1) := by decide +kernel
theorem dX8_next_318 : decode cX8_next 318 = .ok (.putfield 131, 3) := by decide +kernel
theorem dX8_next_321 : decode cX8_next 321 = .ok (.return_, 1) := by decide +kernel
theorem dX8_fail_0 : decode cX8_fail 0 = .ok (.aload_n 0, 1) := by decide +kernel
theorem dX8_fail_1 : decode cX8_fail 1 = .ok (.getfield 157, 3) := by decide +kernel
theorem dX8_fail_4 : decode cX8_fail 4 = .ok (.ifCond .ne 16, 3) := by decide +kernel
theorem dX8_fail_7 : decode cX8_fail 7 = .ok (.aload_n 0, 1) := by decide +kernel
theorem dX8_fail_8 : decode cX8_fail 8 = .ok (.iconst 1, 1) := by decide +kernel
theorem dX8_fail_9 : decode cX8_fail 9 = .ok (.putfield 157, 3) := by decide +kernel
theorem dX8_fail_12 : decode cX8_fail 12 = .ok (.aload_n 0, 1) := by decide +kernel
theorem dX8_fail_13 : decode cX8_fail 13 = .ok (.aload_n 0, 1) := by decide +kernel
theorem dX8_fail_14 : decode cX8_fail 14 = .ok (.getfield 137, 3) := by decide +kernel
theorem dX8_fail_17 : decode cX8_fail 17 = .ok (.putfield 161, 3) := by decide +kernel
theorem dX8_fail_20 : decode cX8_fail 20 = .ok (.return_, 1) := by decide +kernel
theorem dX8_isLetter_0 : decode cX8_isLetter 0 = .ok (.aload_n 0, 1) := by decide +kernel
theorem dX8_isLetter_1 : decode cX8_isLetter 1 = .ok (.getfield 137, 3) := by decide +kernel
theorem dX8_isLetter_4 : decode cX8_isLetter 4 = .ok (.iload_n 1, 1) := by decide +kernel
theorem dX8_isLetter_5 : decode cX8_isLetter 5 = .ok (.iadd, 1) := by decide +kernel
theorem dX8_isLetter_6 : decode cX8_isLetter 6 = .ok (.aload_n 0, 1) := by decide +kernel
theorem dX8_isLetter_7 : decode cX8_isLetter 7 = .ok (.getfield 131, 3) := by decide +kernel
theorem dX8_isLetter_10 : decode cX8_isLetter 10 = .ok (.if_icmp .ge 25, 3) := by decide +kernel
theorem dX8_isLetter_13 : decode cX8_isLetter 13 = .ok (.aload_n 0, 1) := by decide +kernel
theorem dX8_isLetter_14 : decode cX8_isLetter 14 = .ok (.aload_n 0, 1) := by decide +kernel
theorem dX8_isLetter_15 : decode cX8_isLetter 15 = .ok (.getfield 137, 3) := by decide +kernel
theorem dX8_isLetter_18 : decode cX8_isLetter 18 = .ok (.iload_n 1, 1) := by decide +kernel
theorem dX8_isLetter_19 : decode cX8_isLetter 19 = .ok (.iadd, 1) := by decide +kernel
theorem dX8_isLetter_20 : decode cX8_isLetter 20 = .ok (.invokevirtual 134, 3) := by decide +kernel
theorem dX8_isLetter_23 : decode cX8_isLetter 23 = .ok (.iload_n 2, 1) := by decide +kernel
theorem dX8_isLetter_24 : decode cX8_isLetter 24 = .ok (.if_icmp .ne 7, 3) := by decide +kernel
theorem dX8_isLetter_27 : decode cX8_isLetter 27 = .ok (.iconst 1, 1) := by decide +kernel
theorem dX8_isLetter_28 : decode cX8_isLetter 28 = .ok (.goto 16, 3) := by decide +kernel
theorem dX8_isLetter_31 : decode cX8_isLetter 31 = .ok (.iconst 0, 1) := by decide +kernel
theorem dX8_isLetter_32 : decode cX8_isLetter 32 = .ok (.goto 12, 3) := by decide +kernel
theorem dX8_isLetter_35 : decode cX8_isLetter 35 = .ok (.iload_n 2, 1) := by decide +kernel
theorem dX8_isLetter_36 : decode cX8_isLetter 36 = .ok (.ifCond .ne 7, 3) := by decide +kernel
theorem dX8_isLetter_39 : decode cX8_isLetter 39 = .ok (.iconst 1, 1) := by decide +kernel
theorem dX8_isLetter_40 : decode cX8_isLetter 40 = .ok (.goto 4, 3) := by decide +kernel
theorem dX8_isLetter_43 : decode cX8_isLetter 43 = .ok (.iconst 0, 1) := by decide +kernel
theorem dX8_isLetter_44 : decode cX8_isLetter 44 = .ok (.ireturn, 1) := by decide +kernel
theorem dX8_isWord_0 : decode cX8_isWord 0 = .ok (.aload_n 0, 1) := by decide +kernel
theorem dX8_isWord_1 : decode cX8_isWord 1 = .ok (.getfield 157, 3) := by decide +kernel
theorem dX8_isWord_4 : decode cX8_isWord 4 = .ok (.ifCond .ne 108, 3) := by decide +kernel
theorem dX8_isWord_7 : decode cX8_isWord 7 = .ok (.aload_n 0, 1) := by decide +kernel
theorem dX8_isWord_8 : decode cX8_isWord 8 = .ok (.getfield 140, 3) := by decide +kernel
theorem dX8_isWord_11 : decode cX8_isWord 11 = .ok (.iconst 1, 1) := by decide +kernel
theorem dX8_isWord_12 : decode cX8_isWord 12 = .ok (.if_icmp .ne 100, 3) := by decide +kernel
theorem dX8_isWord_15 : decode cX8_isWord 15 = .ok (.aload_n 0, 1) := by decide +kernel
theorem dX8_isWord_16 : decode cX8_isWord 16 = .ok (.getfield 131, 3) := by decide +kernel
theorem dX8_isWord_19 : decode cX8_isWord 19 = .ok (.aload_n 0, 1) := by decide +kernel
theorem dX8_isWord_20 : decode cX8_isWord 20 = .ok (.getfield 137, 3) := by decide +kernel
theorem dX8_isWord_23 : decode cX8_isWord 23 = .ok (.bipush 8, 2) := by decide +kernel
theorem dX8_isWord_25 : decode cX8_isWord 25 = .ok (.iadd, 1) := by decide +kernel
theorem dX8_isWord_26 : decode cX8_isWord 26 = .ok (.if_icmp .gt 86, 3) := by decide +kernel
theorem dX8_isWord_29 : decode cX8_isWord 29 = .ok (.aload_n 0, 1) := by decide +kernel
theorem dX8_isWord_30 : decode cX8_isWord 30 = .ok (.iconst 0, 1) := by decide +kernel
theorem dX8_isWord_31 : decode cX8_isWord 31 = .ok (.iload_n 1, 1) := by decide +kernel
theorem dX8_isWord_32 : decode cX8_isWord 32 = .ok (.invokevirtual 164, 3) := by decide +kernel
theorem dX8_isWord_35 : decode cX8_isWord 35 = .ok (.ifCond .eq 77, 3) := by decide +kernel
theorem dX8_isWord_38 : decode cX8_isWord 38 = .ok (.aload_n 0, 1) := by decide +kernel
theorem dX8_isWord_39 : decode cX8_isWord 39 = .ok (.iconst 1, 1) := by decide +kernel
theorem dX8_isWord_40 : decode cX8_isWord 40 = .ok (.iload_n 2, 1) := by decide +kernel
theorem dX8_isWord_41 : decode cX8_isWord 41 = .ok (.invokevirtual 164, 3) := by decide +kernel
theorem dX8_isWord_44 : decode cX8_isWord 44 = .ok (.ifCond .eq 68, 3) := by decide +kernel
theorem dX8_isWord_47 : decode cX8_isWord 47 = .ok (.aload_n 0, 1) := by decide +kernel
theorem dX8_isWord_48 : decode cX8_isWord 48 = .ok (.iconst 2, 1) := by decide +kernel
theorem dX8_isWord_49 : decode cX8_isWord 49 = .ok (.iload_n 3, 1) := by decide +kernel
theorem dX8_isWord_50 : decode cX8_isWord 50 = .ok (.invokevirtual 164, 3) := by decide +kernel
theorem dX8_isWord_53 : decode cX8_isWord 53 = .ok (.ifCond .eq 59, 3) := by decide +kernel
theorem dX8_isWord_56 : decode cX8_isWord 56 = .ok (.aload_n 0, 1) := by decide +kernel
theorem dX8_isWord_57 : decode cX8_isWord 57 = .ok (.iconst 3, 1) := by decide +kernel
theorem dX8_isWord_58 : decode cX8_isWord 58 = .ok (.iload 4, 2) := by decide +kernel
theorem dX8_isWord_60 : decode cX8_isWord 60 = .ok (.invokevirtual 164, 3) := by decide +kernel
theorem dX8_isWord_63 : decode cX8_isWord 63 = .ok (.ifCond .eq 49, 3) := by decide +kernel
theorem dX8_isWord_66 : decode cX8_isWord 66 = .ok (.aload_n 0, 1) := by decide +kernel
theorem dX8_isWord_67 : decode cX8_isWord 67 = .ok (.iconst 4, 1) := by decide +kernel
theorem dX8_isWord_68 : decode cX8_isWord 68 = .ok (.iload 5, 2) := by decide +kernel
theorem dX8_isWord_70 : decode cX8_isWord 70 = .ok (.invokevirtual 164, 3) := by decide +kernel
theorem dX8_isWord_73 : decode cX8_isWord 73 = .ok (.ifCond .eq 39, 3) := by decide +kernel
theorem dX8_isWord_76 : decode cX8_isWord 76 = .ok (.aload_n 0, 1) := by decide +kernel
theorem dX8_isWord_77 : decode cX8_isWord 77 = .ok (.iconst 5, 1) := by decide +kernel
theorem dX8_isWord_78 : decode cX8_isWord 78 = .ok (.iload 6, 2) := by decide +kernel
theorem dX8_isWord_80 : decode cX8_isWord 80 = .ok (.invokevirtual 164, 3) := by decide +kernel
theorem dX8_isWord_83 : decode cX8_isWord 83 = .ok (.ifCond .eq 29, 3) := by decide +kernel
theorem dX8_isWord_86 : decode cX8_isWord 86 = .ok (.aload_n 0, 1) := by decide +kernel
theorem dX8_isWord_87 : decode cX8_isWord 87 = .ok (.bipush 6, 2) := by decide +kernel
theorem dX8_isWord_89 : decode cX8_isWord 89 = .ok (.iload 7, 2) := by decide +kernel
theorem dX8_isWord_91 : decode cX8_isWord 91 = .ok (.invokevirtual 164, 3) := by decide +kernel
theorem dX8_isWord_94 : decode cX8_isWord 94 = .ok (.ifCond .eq 18, 3) := by decide +kernel
theorem dX8_isWord_97 : decode cX8_isWord 97 = .ok (.aload_n 0, 1) := by decide +kernel
theorem dX8_isWord_98 : decode cX8_isWord 98 = .ok (.bipush 7, 2) := by decide +kernel
theorem dX8_isWord_100 : decode cX8_isWord 100 = .ok (.iload 8, 2) := by decide +kernel
theorem dX8_isWord_102 : decode cX8_isWord 102 = .ok (.invokevirtual 164, 3) := by decide +kernel
theorem dX8_isWord_105 : decode cX8_isWord 105 = .ok (.ifCond .eq 7, 3) := by decide +kernel
theorem dX8_isWord_108 : decode cX8_isWord 108 = .ok (.iconst 1, 1) := by decide +kernel
theorem dX8_isWord_109 : decode cX8_isWord 109 = .ok (.goto 4, 3) := by decide +kernel
theorem dX8_isWord_112 : decode cX8_isWord 112 = .ok (.iconst 0, 1) := by decide +kernel
theorem dX8_isWord_113 : decode cX8_isWord 113 = .ok (.ireturn, 1) := by decide +kernel
theorem dX8_isSign_0 : decode cX8_isSign 0 = .ok (.aload_n 0, 1) := by decide +kernel
theorem dX8_isSign_1 : decode cX8_isSign 1 = .ok (.getfield 157, 3) := by decide +kernel
theorem dX8_isSign_4 : decode cX8_isSign 4 = .ok (.ifCond .ne 25, 3) := by decide +kernel
theorem dX8_isSign_7 : decode cX8_isSign 7 = .ok (.aload_n 0, 1) := by decide +kernel
theorem dX8_isSign_8 : decode cX8_isSign 8 = .ok (.getfield 140, 3) := by decide +kernel
theorem dX8_isSign_11 : decode cX8_isSign 11 = .ok (.iconst 3, 1) := by decide +kernel
theorem dX8_isSign_12 : decode cX8_isSign 12 = .ok (.if_icmp .ne 17, 3) := by decide +kernel
theorem dX8_isSign_15 : decode cX8_isSign 15 = .ok (.aload_n 0, 1) := by decide +kernel
theorem dX8_isSign_16 : decode cX8_isSign 16 = .ok (.getfield 151, 3) := by decide +kernel
theorem dX8_isSign_19 : decode cX8_isSign 19 = .ok (.iload_n 1, 1) := by decide +kernel
theorem dX8_isSign_20 : decode cX8_isSign 20 = .ok (.i2l, 1) := by decide +kernel
theorem dX8_isSign_21 : decode cX8_isSign 21 = .ok (.lcmp, 1) := by decide +kernel
theorem dX8_isSign_22 : decode cX8_isSign 22 = .ok (.ifCond .ne 7, 3) := by decide +kernel
theorem dX8_isSign_25 : decode cX8_isSign 25 = .ok (.iconst 1, 1) := by decide +kernel
theorem dX8_isSign_26 : decode cX8_isSign 26 = .ok (.goto 4, 3) := by decide +kernel
theorem dX8_isSign_29 : decode cX8_isSign 29 = .ok (.iconst 0, 1) := by decide +kernel
theorem dX8_isSign_30 : decode cX8_isSign 30 = .ok (.ireturn, 1) := by decide +kernel
theorem dX8_opens_0 : decode cX8_opens 0 = .ok (.aload_n 0, 1) := by decide +kernel
theorem dX8_opens_1 : decode cX8_opens 1 = .ok (.getfield 168, 3) := by decide +kernel
theorem dX8_opens_4 : decode cX8_opens 4 = .ok (.iconst 5, 1) := by decide +kernel
theorem dX8_opens_5 : decode cX8_opens 5 = .ok (.if_icmp .ne 9, 3) := by decide +kernel
theorem dX8_opens_8 : decode cX8_opens 8 = .ok (.aload_n 0, 1) := by decide +kernel
theorem dX8_opens_9 : decode cX8_opens 9 = .ok (.invokevirtual 171, 3) := by decide +kernel
theorem dX8_opens_12 : decode cX8_opens 12 = .ok (.iconst 0, 1) := by decide +kernel
theorem dX8_opens_13 : decode cX8_opens 13 = .ok (.ireturn, 1) := by decide +kernel
theorem dX8_opens_14 : decode cX8_opens 14 = .ok (.aload_n 0, 1) := by decide +kernel
theorem dX8_opens_15 : decode cX8_opens 15 = .ok (.dup, 1) := by decide +kernel
theorem dX8_opens_16 : decode cX8_opens 16 = .ok (.getfield 168, 3) := by decide +kernel
theorem dX8_opens_19 : decode cX8_opens 19 = .ok (.iconst 1, 1) := by decide +kernel
theorem dX8_opens_20 : decode cX8_opens 20 = .ok (.iadd, 1) := by decide +kernel
theorem dX8_opens_21 : decode cX8_opens 21 = .ok (.putfield 168, 3) := by decide +kernel
theorem dX8_opens_24 : decode cX8_opens 24 = .ok (.aload_n 0, 1) := by decide +kernel
theorem dX8_opens_25 : decode cX8_opens 25 = .ok (.invokevirtual 174, 3) := by decide +kernel
theorem dX8_opens_28 : decode cX8_opens 28 = .ok (.iconst 1, 1) := by decide +kernel
theorem dX8_opens_29 : decode cX8_opens 29 = .ok (.ireturn, 1) := by decide +kernel
theorem dX8_name_0 : decode cX8_name 0 = .ok (.aload_n 0, 1) := by decide +kernel
theorem dX8_name_1 : decode cX8_name 1 = .ok (.bipush 109, 2) := by decide +kernel
theorem dX8_name_3 : decode cX8_name 3 = .ok (.bipush 105, 2) := by decide +kernel
theorem dX8_name_5 : decode cX8_name 5 = .ok (.bipush 110, 2) := by decide +kernel
theorem dX8_name_7 : decode cX8_name 7 = .ok (.bipush 117, 2) := by decide +kernel
theorem dX8_name_9 : decode cX8_name 9 = .ok (.bipush 116, 2) := by decide +kernel
theorem dX8_name_11 : decode cX8_name 11 = .ok (.bipush 101, 2) := by decide +kernel
theorem dX8_name_13 : decode cX8_name 13 = .ok (.iconst 0, 1) := by decide +kernel
theorem dX8_name_14 : decode cX8_name 14 = .ok (.iconst 0, 1) := by decide +kernel
theorem dX8_name_15 : decode cX8_name 15 = .ok (.invokevirtual 177, 3) := by decide +kernel
theorem dX8_name_18 : decode cX8_name 18 = .ok (.ifCond .eq 8, 3) := by decide +kernel
theorem dX8_name_21 : decode cX8_name 21 = .ok (.aload_n 0, 1) := by decide +kernel
theorem dX8_name_22 : decode cX8_name 22 = .ok (.getfield 181, 3) := by decide +kernel
theorem dX8_name_25 : decode cX8_name 25 = .ok (.ireturn, 1) := by decide +kernel
theorem dX8_name_26 : decode cX8_name 26 = .ok (.aload_n 0, 1) := by decide +kernel
theorem dX8_name_27 : decode cX8_name 27 = .ok (.bipush 100, 2) := by decide +kernel
theorem dX8_name_29 : decode cX8_name 29 = .ok (.bipush 97, 2) := by decide +kernel
theorem dX8_name_31 : decode cX8_name 31 = .ok (.bipush 109, 2) := by decide +kernel
theorem dX8_name_33 : decode cX8_name 33 = .ok (.bipush 112, 2) := by decide +kernel
theorem dX8_name_35 : decode cX8_name 35 = .ok (.iconst 0, 1) := by decide +kernel
theorem dX8_name_36 : decode cX8_name 36 = .ok (.iconst 0, 1) := by decide +kernel
theorem dX8_name_37 : decode cX8_name 37 = .ok (.iconst 0, 1) := by decide +kernel
theorem dX8_name_38 : decode cX8_name 38 = .ok (.iconst 0, 1) := by decide +kernel
theorem dX8_name_39 : decode cX8_name 39 = .ok (.invokevirtual 177, 3) := by decide +kernel
theorem dX8_name_42 : decode cX8_name 42 = .ok (.ifCond .eq 8, 3) := by decide +kernel
theorem dX8_name_45 : decode cX8_name 45 = .ok (.aload_n 0, 1) := by decide +kernel
theorem dX8_name_46 : decode cX8_name 46 = .ok (.getfield 184, 3) := by decide +kernel
theorem dX8_name_49 : decode cX8_name 49 = .ok (.ireturn, 1) := by decide +kernel
theorem dX8_name_50 : decode cX8_name 50 = .ok (.aload_n 0, 1) := by decide +kernel
theorem dX8_name_51 : decode cX8_name 51 = .ok (.bipush 104, 2) := by decide +kernel
theorem dX8_name_53 : decode cX8_name 53 = .ok (.bipush 101, 2) := by decide +kernel
theorem dX8_name_55 : decode cX8_name 55 = .ok (.bipush 97, 2) := by decide +kernel
theorem dX8_name_57 : decode cX8_name 57 = .ok (.bipush 116, 2) := by decide +kernel
theorem dX8_name_59 : decode cX8_name 59 = .ok (.iconst 0, 1) := by decide +kernel
theorem dX8_name_60 : decode cX8_name 60 = .ok (.iconst 0, 1) := by decide +kernel
theorem dX8_name_61 : decode cX8_name 61 = .ok (.iconst 0, 1) := by decide +kernel
theorem dX8_name_62 : decode cX8_name 62 = .ok (.iconst 0, 1) := by decide +kernel
theorem dX8_name_63 : decode cX8_name 63 = .ok (.invokevirtual 177, 3) := by decide +kernel
theorem dX8_name_66 : decode cX8_name 66 = .ok (.ifCond .eq 8, 3) := by decide +kernel
theorem dX8_name_69 : decode cX8_name 69 = .ok (.aload_n 0, 1) := by decide +kernel
theorem dX8_name_70 : decode cX8_name 70 = .ok (.getfield 187, 3) := by decide +kernel
theorem dX8_name_73 : decode cX8_name 73 = .ok (.ireturn, 1) := by decide +kernel
theorem dX8_name_74 : decode cX8_name 74 = .ok (.aload_n 0, 1) := by decide +kernel
theorem dX8_name_75 : decode cX8_name 75 = .ok (.bipush 110, 2) := by decide +kernel
theorem dX8_name_77 : decode cX8_name 77 = .ok (.bipush 117, 2) := by decide +kernel
theorem dX8_name_79 : decode cX8_name 79 = .ok (.bipush 109, 2) := by decide +kernel
theorem dX8_name_81 : decode cX8_name 81 = .ok (.bipush 98, 2) := by decide +kernel
theorem dX8_name_83 : decode cX8_name 83 = .ok (.bipush 101, 2) := by decide +kernel
theorem dX8_name_85 : decode cX8_name 85 = .ok (.bipush 114, 2) := by decide +kernel
theorem dX8_name_87 : decode cX8_name 87 = .ok (.iconst 0, 1) := by decide +kernel
theorem dX8_name_88 : decode cX8_name 88 = .ok (.iconst 0, 1) := by decide +kernel
theorem dX8_name_89 : decode cX8_name 89 = .ok (.invokevirtual 177, 3) := by decide +kernel
theorem dX8_name_92 : decode cX8_name 92 = .ok (.ifCond .eq 8, 3) := by decide +kernel
theorem dX8_name_95 : decode cX8_name 95 = .ok (.aload_n 0, 1) := by decide +kernel
theorem dX8_name_96 : decode cX8_name 96 = .ok (.getfield 190, 3) := by decide +kernel
theorem dX8_name_99 : decode cX8_name 99 = .ok (.ireturn, 1) := by decide +kernel
theorem dX8_name_100 : decode cX8_name 100 = .ok (.aload_n 0, 1) := by decide +kernel
theorem dX8_name_101 : decode cX8_name 101 = .ok (.bipush 99, 2) := by decide +kernel
theorem dX8_name_103 : decode cX8_name 103 = .ok (.bipush 114, 2) := by decide +kernel
theorem dX8_name_105 : decode cX8_name 105 = .ok (.bipush 101, 2) := by decide +kernel
theorem dX8_name_107 : decode cX8_name 107 = .ok (.bipush 97, 2) := by decide +kernel
theorem dX8_name_109 : decode cX8_name 109 = .ok (.bipush 115, 2) := by decide +kernel
theorem dX8_name_111 : decode cX8_name 111 = .ok (.bipush 101, 2) := by decide +kernel
theorem dX8_name_113 : decode cX8_name 113 = .ok (.iconst 0, 1) := by decide +kernel
theorem dX8_name_114 : decode cX8_name 114 = .ok (.iconst 0, 1) := by decide +kernel
theorem dX8_name_115 : decode cX8_name 115 = .ok (.invokevirtual 177, 3) := by decide +kernel
theorem dX8_name_118 : decode cX8_name 118 = .ok (.ifCond .eq 8, 3) := by decide +kernel
theorem dX8_name_121 : decode cX8_name 121 = .ok (.aload_n 0, 1) := by decide +kernel
theorem dX8_name_122 : decode cX8_name 122 = .ok (.getfield 193, 3) := by decide +kernel
theorem dX8_name_125 : decode cX8_name 125 = .ok (.ireturn, 1) := by decide +kernel
theorem dX8_name_126 : decode cX8_name 126 = .ok (.aload_n 0, 1) := by decide +kernel
theorem dX8_name_127 : decode cX8_name 127 = .ok (.bipush 112, 2) := by decide +kernel
theorem dX8_name_129 : decode cX8_name 129 = .ok (.bipush 97, 2) := by decide +kernel
theorem dX8_name_131 : decode cX8_name 131 = .ok (.bipush 114, 2) := by decide +kernel
theorem dX8_name_133 : decode cX8_name 133 = .ok (.bipush 116, 2) := by decide +kernel
theorem dX8_name_135 : decode cX8_name 135 = .ok (.iconst 0, 1) := by decide +kernel
theorem dX8_name_136 : decode cX8_name 136 = .ok (.iconst 0, 1) := by decide +kernel
theorem dX8_name_137 : decode cX8_name 137 = .ok (.iconst 0, 1) := by decide +kernel
theorem dX8_name_138 : decode cX8_name 138 = .ok (.iconst 0, 1) := by decide +kernel
theorem dX8_name_139 : decode cX8_name 139 = .ok (.invokevirtual 177, 3) := by decide +kernel
theorem dX8_name_142 : decode cX8_name 142 = .ok (.ifCond .eq 8, 3) := by decide +kernel
theorem dX8_name_145 : decode cX8_name 145 = .ok (.aload_n 0, 1) := by decide +kernel
theorem dX8_name_146 : decode cX8_name 146 = .ok (.getfield 196, 3) := by decide +kernel
theorem dX8_name_149 : decode cX8_name 149 = .ok (.ireturn, 1) := by decide +kernel
theorem dX8_name_150 : decode cX8_name 150 = .ok (.aload_n 0, 1) := by decide +kernel
theorem dX8_name_151 : decode cX8_name 151 = .ok (.invokevirtual 171, 3) := by decide +kernel
theorem dX8_name_154 : decode cX8_name 154 = .ok (.iconst 0, 1) := by decide +kernel
theorem dX8_name_155 : decode cX8_name 155 = .ok (.ireturn, 1) := by decide +kernel
theorem dX8_atom_0 : decode cX8_atom 0 = .ok (.iconst 0, 1) := by decide +kernel
theorem dX8_atom_1 : decode cX8_atom 1 = .ok (.istore_n 1, 1) := by decide +kernel
theorem dX8_atom_2 : decode cX8_atom 2 = .ok (.aload_n 0, 1) := by decide +kernel
theorem dX8_atom_3 : decode cX8_atom 3 = .ok (.bipush 45, 2) := by decide +kernel
theorem dX8_atom_5 : decode cX8_atom 5 = .ok (.invokevirtual 199, 3) := by decide +kernel
theorem dX8_atom_8 : decode cX8_atom 8 = .ok (.ifCond .eq 29, 3) := by decide +kernel
theorem dX8_atom_11 : decode cX8_atom 11 = .ok (.aload_n 0, 1) := by decide +kernel
theorem dX8_atom_12 : decode cX8_atom 12 = .ok (.invokevirtual 202, 3) := by decide +kernel
theorem dX8_atom_15 : decode cX8_atom 15 = .ok (.ifCond .eq 146, 3) := by decide +kernel
theorem dX8_atom_18 : decode cX8_atom 18 = .ok (.aload_n 0, 1) := by decide +kernel
theorem dX8_atom_19 : decode cX8_atom 19 = .ok (.invokevirtual 206, 3) := by decide +kernel
theorem dX8_atom_22 : decode cX8_atom 22 = .ok (.ineg, 1) := by decide +kernel
theorem dX8_atom_23 : decode cX8_atom 23 = .ok (.istore_n 1, 1) := by decide +kernel
theorem dX8_atom_24 : decode cX8_atom 24 = .ok (.aload_n 0, 1) := by decide +kernel
theorem dX8_atom_25 : decode cX8_atom 25 = .ok (.dup, 1) := by decide +kernel
theorem dX8_atom_26 : decode cX8_atom 26 = .ok (.getfield 168, 3) := by decide +kernel
theorem dX8_atom_29 : decode cX8_atom 29 = .ok (.iconst 1, 1) := by decide +kernel
theorem dX8_atom_30 : decode cX8_atom 30 = .ok (.isub, 1) := by decide +kernel
theorem dX8_atom_31 : decode cX8_atom 31 = .ok (.putfield 168, 3) := by decide +kernel
theorem dX8_atom_34 : decode cX8_atom 34 = .ok (.goto 127, 3) := by decide +kernel
theorem dX8_atom_37 : decode cX8_atom 37 = .ok (.aload_n 0, 1) := by decide +kernel
theorem dX8_atom_38 : decode cX8_atom 38 = .ok (.bipush 40, 2) := by decide +kernel
theorem dX8_atom_40 : decode cX8_atom 40 = .ok (.invokevirtual 199, 3) := by decide +kernel
theorem dX8_atom_43 : decode cX8_atom 43 = .ok (.ifCond .eq 52, 3) := by decide +kernel
theorem dX8_atom_46 : decode cX8_atom 46 = .ok (.aload_n 0, 1) := by decide +kernel
theorem dX8_atom_47 : decode cX8_atom 47 = .ok (.invokevirtual 202, 3) := by decide +kernel
theorem dX8_atom_50 : decode cX8_atom 50 = .ok (.ifCond .eq 111, 3) := by decide +kernel
theorem dX8_atom_53 : decode cX8_atom 53 = .ok (.aload_n 0, 1) := by decide +kernel
theorem dX8_atom_54 : decode cX8_atom 54 = .ok (.invokevirtual 210, 3) := by decide +kernel
theorem dX8_atom_57 : decode cX8_atom 57 = .ok (.istore_n 1, 1) := by decide +kernel
theorem dX8_atom_58 : decode cX8_atom 58 = .ok (.aload_n 0, 1) := by decide +kernel
theorem dX8_atom_59 : decode cX8_atom 59 = .ok (.bipush 41, 2) := by decide +kernel
theorem dX8_atom_61 : decode cX8_atom 61 = .ok (.invokevirtual 199, 3) := by decide +kernel
theorem dX8_atom_64 : decode cX8_atom 64 = .ok (.ifCond .ne 7, 3) := by decide +kernel
theorem dX8_atom_67 : decode cX8_atom 67 = .ok (.aload_n 0, 1) := by decide +kernel
theorem dX8_atom_68 : decode cX8_atom 68 = .ok (.invokevirtual 171, 3) := by decide +kernel
theorem dX8_atom_71 : decode cX8_atom 71 = .ok (.aload_n 0, 1) := by decide +kernel
theorem dX8_atom_72 : decode cX8_atom 72 = .ok (.dup, 1) := by decide +kernel
theorem dX8_atom_73 : decode cX8_atom 73 = .ok (.getfield 168, 3) := by decide +kernel
theorem dX8_atom_76 : decode cX8_atom 76 = .ok (.iconst 1, 1) := by decide +kernel
theorem dX8_atom_77 : decode cX8_atom 77 = .ok (.isub, 1) := by decide +kernel
theorem dX8_atom_78 : decode cX8_atom 78 = .ok (.putfield 168, 3) := by decide +kernel
theorem dX8_atom_81 : decode cX8_atom 81 = .ok (.aload_n 0, 1) := by decide +kernel
theorem dX8_atom_82 : decode cX8_atom 82 = .ok (.getfield 157, 3) := by decide +kernel
theorem dX8_atom_85 : decode cX8_atom 85 = .ok (.ifCond .ne 76, 3) := by decide +kernel
theorem dX8_atom_88 : decode cX8_atom 88 = .ok (.aload_n 0, 1) := by decide +kernel
theorem dX8_atom_89 : decode cX8_atom 89 = .ok (.invokevirtual 174, 3) := by decide +kernel
theorem dX8_atom_92 : decode cX8_atom 92 = .ok (.goto 69, 3) := by decide +kernel
theorem dX8_atom_95 : decode cX8_atom 95 = .ok (.aload_n 0, 1) := by decide +kernel
theorem dX8_atom_96 : decode cX8_atom 96 = .ok (.getfield 157, 3) := by decide +kernel
theorem dX8_atom_99 : decode cX8_atom 99 = .ok (.ifCond .ne 24, 3) := by decide +kernel
theorem dX8_atom_102 : decode cX8_atom 102 = .ok (.aload_n 0, 1) := by decide +kernel
theorem dX8_atom_103 : decode cX8_atom 103 = .ok (.getfield 140, 3) := by decide +kernel
theorem dX8_atom_106 : decode cX8_atom 106 = .ok (.iconst 2, 1) := by decide +kernel
theorem dX8_atom_107 : decode cX8_atom 107 = .ok (.if_icmp .ne 16, 3) := by decide +kernel
theorem dX8_atom_110 : decode cX8_atom 110 = .ok (.aload_n 0, 1) := by decide +kernel
theorem dX8_atom_111 : decode cX8_atom 111 = .ok (.getfield 151, 3) := by decide +kernel
theorem dX8_atom_114 : decode cX8_atom 114 = .ok (.l2i, 1) := by decide +kernel
theorem dX8_atom_115 : decode cX8_atom 115 = .ok (.istore_n 1, 1) := by decide +kernel
theorem dX8_atom_116 : decode cX8_atom 116 = .ok (.aload_n 0, 1) := by decide +kernel
theorem dX8_atom_117 : decode cX8_atom 117 = .ok (.invokevirtual 174, 3) := by decide +kernel
theorem dX8_atom_120 : decode cX8_atom 120 = .ok (.goto 41, 3) := by decide +kernel
theorem dX8_atom_123 : decode cX8_atom 123 = .ok (.aload_n 0, 1) := by decide +kernel
theorem dX8_atom_124 : decode cX8_atom 124 = .ok (.getfield 157, 3) := by decide +kernel
theorem dX8_atom_127 : decode cX8_atom 127 = .ok (.ifCond .ne 30, 3) := by decide +kernel
theorem dX8_atom_130 : decode cX8_atom 130 = .ok (.aload_n 0, 1) := by decide +kernel
theorem dX8_atom_131 : decode cX8_atom 131 = .ok (.getfield 140, 3) := by decide +kernel
theorem dX8_atom_134 : decode cX8_atom 134 = .ok (.iconst 1, 1) := by decide +kernel
theorem dX8_atom_135 : decode cX8_atom 135 = .ok (.if_icmp .ne 22, 3) := by decide +kernel
theorem dX8_atom_138 : decode cX8_atom 138 = .ok (.aload_n 0, 1) := by decide +kernel
theorem dX8_atom_139 : decode cX8_atom 139 = .ok (.invokevirtual 213, 3) := by decide +kernel
theorem dX8_atom_142 : decode cX8_atom 142 = .ok (.istore_n 1, 1) := by decide +kernel
theorem dX8_atom_143 : decode cX8_atom 143 = .ok (.aload_n 0, 1) := by decide +kernel
theorem dX8_atom_144 : decode cX8_atom 144 = .ok (.getfield 157, 3) := by decide +kernel
theorem dX8_atom_147 : decode cX8_atom 147 = .ok (.ifCond .ne 14, 3) := by decide +kernel
theorem dX8_atom_150 : decode cX8_atom 150 = .ok (.aload_n 0, 1) := by decide +kernel
theorem dX8_atom_151 : decode cX8_atom 151 = .ok (.invokevirtual 174, 3) := by decide +kernel
theorem dX8_atom_154 : decode cX8_atom 154 = .ok (.goto 7, 3) := by decide +kernel
theorem dX8_atom_157 : decode cX8_atom 157 = .ok (.aload_n 0, 1) := by decide +kernel
theorem dX8_atom_158 : decode cX8_atom 158 = .ok (.invokevirtual 171, 3) := by decide +kernel
theorem dX8_atom_161 : decode cX8_atom 161 = .ok (.iload_n 1, 1) := by decide +kernel
theorem dX8_atom_162 : decode cX8_atom 162 = .ok (.ireturn, 1) := by decide +kernel
theorem dX8_term_0 : decode cX8_term 0 = .ok (.aload_n 0, 1) := by decide +kernel
theorem dX8_term_1 : decode cX8_term 1 = .ok (.invokevirtual 206, 3) := by decide +kernel
theorem dX8_term_4 : decode cX8_term 4 = .ok (.istore_n 1, 1) := by decide +kernel
theorem dX8_term_5 : decode cX8_term 5 = .ok (.aload_n 0, 1) := by decide +kernel
theorem dX8_term_6 : decode cX8_term 6 = .ok (.bipush 42, 2) := by decide +kernel
theorem dX8_term_8 : decode cX8_term 8 = .ok (.invokevirtual 199, 3) := by decide +kernel
theorem dX8_term_11 : decode cX8_term 11 = .ok (.ifCond .eq 17, 3) := by decide +kernel
theorem dX8_term_14 : decode cX8_term 14 = .ok (.aload_n 0, 1) := by decide +kernel
theorem dX8_term_15 : decode cX8_term 15 = .ok (.invokevirtual 174, 3) := by decide +kernel
theorem dX8_term_18 : decode cX8_term 18 = .ok (.iload_n 1, 1) := by decide +kernel
theorem dX8_term_19 : decode cX8_term 19 = .ok (.aload_n 0, 1) := by decide +kernel
theorem dX8_term_20 : decode cX8_term 20 = .ok (.invokevirtual 206, 3) := by decide +kernel
theorem dX8_term_23 : decode cX8_term 23 = .ok (.imul, 1) := by decide +kernel
theorem dX8_term_24 : decode cX8_term 24 = .ok (.istore_n 1, 1) := by decide +kernel
theorem dX8_term_25 : decode cX8_term 25 = .ok (.goto (-20), 3) := by decide +kernel
theorem dX8_term_28 : decode cX8_term 28 = .ok (.iload_n 1, 1) := by decide +kernel
theorem dX8_term_29 : decode cX8_term 29 = .ok (.ireturn, 1) := by decide +kernel
theorem dX8_added_0 : decode cX8_added 0 = .ok (.aload_n 0, 1) := by decide +kernel
theorem dX8_added_1 : decode cX8_added 1 = .ok (.invokevirtual 216, 3) := by decide +kernel
theorem dX8_added_4 : decode cX8_added 4 = .ok (.istore_n 1, 1) := by decide +kernel
theorem dX8_added_5 : decode cX8_added 5 = .ok (.aload_n 0, 1) := by decide +kernel
theorem dX8_added_6 : decode cX8_added 6 = .ok (.bipush 43, 2) := by decide +kernel
theorem dX8_added_8 : decode cX8_added 8 = .ok (.invokevirtual 199, 3) := by decide +kernel
theorem dX8_added_11 : decode cX8_added 11 = .ok (.ifCond .ne 12, 3) := by decide +kernel
theorem dX8_added_14 : decode cX8_added 14 = .ok (.aload_n 0, 1) := by decide +kernel
theorem dX8_added_15 : decode cX8_added 15 = .ok (.bipush 45, 2) := by decide +kernel
theorem dX8_added_17 : decode cX8_added 17 = .ok (.invokevirtual 199, 3) := by decide +kernel
theorem dX8_added_20 : decode cX8_added 20 = .ok (.ifCond .eq 46, 3) := by decide +kernel
theorem dX8_added_23 : decode cX8_added 23 = .ok (.aload_n 0, 1) := by decide +kernel
theorem dX8_added_24 : decode cX8_added 24 = .ok (.getfield 151, 3) := by decide +kernel
theorem dX8_added_27 : decode cX8_added 27 = .ok (.ldc2_w 219, 3) := by decide +kernel
theorem dX8_added_30 : decode cX8_added 30 = .ok (.lcmp, 1) := by decide +kernel
theorem dX8_added_31 : decode cX8_added 31 = .ok (.ifCond .ne 7, 3) := by decide +kernel
theorem dX8_added_34 : decode cX8_added 34 = .ok (.iconst 1, 1) := by decide +kernel
theorem dX8_added_35 : decode cX8_added 35 = .ok (.goto 4, 3) := by decide +kernel
theorem dX8_added_38 : decode cX8_added 38 = .ok (.iconst 0, 1) := by decide +kernel
theorem dX8_added_39 : decode cX8_added 39 = .ok (.istore_n 2, 1) := by decide +kernel
theorem dX8_added_40 : decode cX8_added 40 = .ok (.aload_n 0, 1) := by decide +kernel
theorem dX8_added_41 : decode cX8_added 41 = .ok (.invokevirtual 174, 3) := by decide +kernel
theorem dX8_added_44 : decode cX8_added 44 = .ok (.aload_n 0, 1) := by decide +kernel
theorem dX8_added_45 : decode cX8_added 45 = .ok (.invokevirtual 216, 3) := by decide +kernel
theorem dX8_added_48 : decode cX8_added 48 = .ok (.istore_n 3, 1) := by decide +kernel
theorem dX8_added_49 : decode cX8_added 49 = .ok (.iload_n 2, 1) := by decide +kernel
theorem dX8_added_50 : decode cX8_added 50 = .ok (.ifCond .eq 9, 3) := by decide +kernel
theorem dX8_added_53 : decode cX8_added 53 = .ok (.iload_n 1, 1) := by decide +kernel
theorem dX8_added_54 : decode cX8_added 54 = .ok (.iload_n 3, 1) := by decide +kernel
theorem dX8_added_55 : decode cX8_added 55 = .ok (.iadd, 1) := by decide +kernel
theorem dX8_added_56 : decode cX8_added 56 = .ok (.goto 6, 3) := by decide +kernel
theorem dX8_added_59 : decode cX8_added 59 = .ok (.iload_n 1, 1) := by decide +kernel
theorem dX8_added_60 : decode cX8_added 60 = .ok (.iload_n 3, 1) := by decide +kernel
theorem dX8_added_61 : decode cX8_added 61 = .ok (.isub, 1) := by decide +kernel
theorem dX8_added_62 : decode cX8_added 62 = .ok (.istore_n 1, 1) := by decide +kernel
theorem dX8_added_63 : decode cX8_added 63 = .ok (.goto (-58), 3) := by decide +kernel
theorem dX8_added_66 : decode cX8_added 66 = .ok (.iload_n 1, 1) := by decide +kernel
theorem dX8_added_67 : decode cX8_added 67 = .ok (.ireturn, 1) := by decide +kernel
theorem dX8_not_0 : decode cX8_not 0 = .ok (.aload_n 0, 1) := by decide +kernel
theorem dX8_not_1 : decode cX8_not 1 = .ok (.bipush 110, 2) := by decide +kernel
theorem dX8_not_3 : decode cX8_not 3 = .ok (.bipush 111, 2) := by decide +kernel
theorem dX8_not_5 : decode cX8_not 5 = .ok (.bipush 116, 2) := by decide +kernel
theorem dX8_not_7 : decode cX8_not 7 = .ok (.iconst 0, 1) := by decide +kernel
theorem dX8_not_8 : decode cX8_not 8 = .ok (.iconst 0, 1) := by decide +kernel
theorem dX8_not_9 : decode cX8_not 9 = .ok (.iconst 0, 1) := by decide +kernel
theorem dX8_not_10 : decode cX8_not 10 = .ok (.iconst 0, 1) := by decide +kernel
theorem dX8_not_11 : decode cX8_not 11 = .ok (.iconst 0, 1) := by decide +kernel
theorem dX8_not_12 : decode cX8_not 12 = .ok (.invokevirtual 177, 3) := by decide +kernel
theorem dX8_not_15 : decode cX8_not 15 = .ok (.ifCond .eq 37, 3) := by decide +kernel
theorem dX8_not_18 : decode cX8_not 18 = .ok (.aload_n 0, 1) := by decide +kernel
theorem dX8_not_19 : decode cX8_not 19 = .ok (.invokevirtual 202, 3) := by decide +kernel
theorem dX8_not_22 : decode cX8_not 22 = .ok (.ifCond .ne 5, 3) := by decide +kernel
theorem dX8_not_25 : decode cX8_not 25 = .ok (.iconst 0, 1) := by decide +kernel
theorem dX8_not_26 : decode cX8_not 26 = .ok (.ireturn, 1) := by decide +kernel
theorem dX8_not_27 : decode cX8_not 27 = .ok (.aload_n 0, 1) := by decide +kernel
theorem dX8_not_28 : decode cX8_not 28 = .ok (.invokevirtual 221, 3) := by decide +kernel
theorem dX8_not_31 : decode cX8_not 31 = .ok (.istore_n 1, 1) := by decide +kernel
theorem dX8_not_32 : decode cX8_not 32 = .ok (.aload_n 0, 1) := by decide +kernel
theorem dX8_not_33 : decode cX8_not 33 = .ok (.dup, 1) := by decide +kernel
theorem dX8_not_34 : decode cX8_not 34 = .ok (.getfield 168, 3) := by decide +kernel
theorem dX8_not_37 : decode cX8_not 37 = .ok (.iconst 1, 1) := by decide +kernel
theorem dX8_not_38 : decode cX8_not 38 = .ok (.isub, 1) := by decide +kernel
theorem dX8_not_39 : decode cX8_not 39 = .ok (.putfield 168, 3) := by decide +kernel
theorem dX8_not_42 : decode cX8_not 42 = .ok (.iload_n 1, 1) := by decide +kernel
theorem dX8_not_43 : decode cX8_not 43 = .ok (.ifCond .ne 7, 3) := by decide +kernel
theorem dX8_not_46 : decode cX8_not 46 = .ok (.iconst 1, 1) := by decide +kernel
theorem dX8_not_47 : decode cX8_not 47 = .ok (.goto 4, 3) := by decide +kernel
theorem dX8_not_50 : decode cX8_not 50 = .ok (.iconst 0, 1) := by decide +kernel
theorem dX8_not_51 : decode cX8_not 51 = .ok (.ireturn, 1) := by decide +kernel
theorem dX8_not_52 : decode cX8_not 52 = .ok (.aload_n 0, 1) := by decide +kernel
theorem dX8_not_53 : decode cX8_not 53 = .ok (.invokevirtual 224, 3) := by decide +kernel
theorem dX8_not_56 : decode cX8_not 56 = .ok (.istore_n 1, 1) := by decide +kernel
theorem dX8_not_57 : decode cX8_not 57 = .ok (.aload_n 0, 1) := by decide +kernel
theorem dX8_not_58 : decode cX8_not 58 = .ok (.bipush 60, 2) := by decide +kernel
theorem dX8_not_60 : decode cX8_not 60 = .ok (.invokevirtual 199, 3) := by decide +kernel
theorem dX8_not_63 : decode cX8_not 63 = .ok (.ifCond .ne 14, 3) := by decide +kernel
theorem dX8_not_66 : decode cX8_not 66 = .ok (.aload_n 0, 1) := by decide +kernel
theorem dX8_not_67 : decode cX8_not 67 = .ok (.bipush 61, 2) := by decide +kernel
theorem dX8_not_69 : decode cX8_not 69 = .ok (.invokevirtual 199, 3) := by decide +kernel
theorem dX8_not_72 : decode cX8_not 72 = .ok (.ifCond .ne 5, 3) := by decide +kernel
theorem dX8_not_75 : decode cX8_not 75 = .ok (.iload_n 1, 1) := by decide +kernel
theorem dX8_not_76 : decode cX8_not 76 = .ok (.ireturn, 1) := by decide +kernel
theorem dX8_not_77 : decode cX8_not 77 = .ok (.aload_n 0, 1) := by decide +kernel
theorem dX8_not_78 : decode cX8_not 78 = .ok (.getfield 151, 3) := by decide +kernel
theorem dX8_not_81 : decode cX8_not 81 = .ok (.ldc2_w 227, 3) := by decide +kernel
theorem dX8_not_84 : decode cX8_not 84 = .ok (.lcmp, 1) := by decide +kernel
theorem dX8_not_85 : decode cX8_not 85 = .ok (.ifCond .ne 7, 3) := by decide +kernel
theorem dX8_not_88 : decode cX8_not 88 = .ok (.iconst 1, 1) := by decide +kernel
theorem dX8_not_89 : decode cX8_not 89 = .ok (.goto 4, 3) := by decide +kernel
theorem dX8_not_92 : decode cX8_not 92 = .ok (.iconst 0, 1) := by decide +kernel
theorem dX8_not_93 : decode cX8_not 93 = .ok (.istore_n 2, 1) := by decide +kernel
theorem dX8_not_94 : decode cX8_not 94 = .ok (.aload_n 0, 1) := by decide +kernel
theorem dX8_not_95 : decode cX8_not 95 = .ok (.invokevirtual 174, 3) := by decide +kernel
theorem dX8_not_98 : decode cX8_not 98 = .ok (.aload_n 0, 1) := by decide +kernel
theorem dX8_not_99 : decode cX8_not 99 = .ok (.invokevirtual 224, 3) := by decide +kernel
theorem dX8_not_102 : decode cX8_not 102 = .ok (.istore_n 3, 1) := by decide +kernel
theorem dX8_not_103 : decode cX8_not 103 = .ok (.iload_n 2, 1) := by decide +kernel
theorem dX8_not_104 : decode cX8_not 104 = .ok (.ifCond .eq 11, 3) := by decide +kernel
theorem dX8_not_107 : decode cX8_not 107 = .ok (.iload_n 1, 1) := by decide +kernel
theorem dX8_not_108 : decode cX8_not 108 = .ok (.iload_n 3, 1) := by decide +kernel
theorem dX8_not_109 : decode cX8_not 109 = .ok (.if_icmp .ge 15, 3) := by decide +kernel
theorem dX8_not_112 : decode cX8_not 112 = .ok (.goto 8, 3) := by decide +kernel
theorem dX8_not_115 : decode cX8_not 115 = .ok (.iload_n 1, 1) := by decide +kernel
theorem dX8_not_116 : decode cX8_not 116 = .ok (.iload_n 3, 1) := by decide +kernel
theorem dX8_not_117 : decode cX8_not 117 = .ok (.if_icmp .ne 7, 3) := by decide +kernel
theorem dX8_not_120 : decode cX8_not 120 = .ok (.iconst 1, 1) := by decide +kernel
theorem dX8_not_121 : decode cX8_not 121 = .ok (.goto 4, 3) := by decide +kernel
theorem dX8_not_124 : decode cX8_not 124 = .ok (.iconst 0, 1) := by decide +kernel
theorem dX8_not_125 : decode cX8_not 125 = .ok (.ireturn, 1) := by decide +kernel
theorem dX8_both_0 : decode cX8_both 0 = .ok (.aload_n 0, 1) := by decide +kernel
theorem dX8_both_1 : decode cX8_both 1 = .ok (.invokevirtual 221, 3) := by decide +kernel
theorem dX8_both_4 : decode cX8_both 4 = .ok (.istore_n 1, 1) := by decide +kernel
theorem dX8_both_5 : decode cX8_both 5 = .ok (.aload_n 0, 1) := by decide +kernel
theorem dX8_both_6 : decode cX8_both 6 = .ok (.bipush 97, 2) := by decide +kernel
theorem dX8_both_8 : decode cX8_both 8 = .ok (.bipush 110, 2) := by decide +kernel
theorem dX8_both_10 : decode cX8_both 10 = .ok (.bipush 100, 2) := by decide +kernel
theorem dX8_both_12 : decode cX8_both 12 = .ok (.iconst 0, 1) := by decide +kernel
theorem dX8_both_13 : decode cX8_both 13 = .ok (.iconst 0, 1) := by decide +kernel
theorem dX8_both_14 : decode cX8_both 14 = .ok (.iconst 0, 1) := by decide +kernel
theorem dX8_both_15 : decode cX8_both 15 = .ok (.iconst 0, 1) := by decide +kernel
theorem dX8_both_16 : decode cX8_both 16 = .ok (.iconst 0, 1) := by decide +kernel
theorem dX8_both_17 : decode cX8_both 17 = .ok (.invokevirtual 177, 3) := by decide +kernel
theorem dX8_both_20 : decode cX8_both 20 = .ok (.ifCond .eq 29, 3) := by decide +kernel
theorem dX8_both_23 : decode cX8_both 23 = .ok (.aload_n 0, 1) := by decide +kernel
theorem dX8_both_24 : decode cX8_both 24 = .ok (.invokevirtual 174, 3) := by decide +kernel
theorem dX8_both_27 : decode cX8_both 27 = .ok (.aload_n 0, 1) := by decide +kernel
theorem dX8_both_28 : decode cX8_both 28 = .ok (.invokevirtual 221, 3) := by decide +kernel
theorem dX8_both_31 : decode cX8_both 31 = .ok (.istore_n 2, 1) := by decide +kernel
theorem dX8_both_32 : decode cX8_both 32 = .ok (.iload_n 1, 1) := by decide +kernel
theorem dX8_both_33 : decode cX8_both 33 = .ok (.ifCond .eq 11, 3) := by decide +kernel
theorem dX8_both_36 : decode cX8_both 36 = .ok (.iload_n 2, 1) := by decide +kernel
theorem dX8_both_37 : decode cX8_both 37 = .ok (.ifCond .eq 7, 3) := by decide +kernel
theorem dX8_both_40 : decode cX8_both 40 = .ok (.iconst 1, 1) := by decide +kernel
theorem dX8_both_41 : decode cX8_both 41 = .ok (.goto 4, 3) := by decide +kernel
theorem dX8_both_44 : decode cX8_both 44 = .ok (.iconst 0, 1) := by decide +kernel
theorem dX8_both_45 : decode cX8_both 45 = .ok (.istore_n 1, 1) := by decide +kernel
theorem dX8_both_46 : decode cX8_both 46 = .ok (.goto (-41), 3) := by decide +kernel
theorem dX8_both_49 : decode cX8_both 49 = .ok (.iload_n 1, 1) := by decide +kernel
theorem dX8_both_50 : decode cX8_both 50 = .ok (.ireturn, 1) := by decide +kernel
theorem dX8_either_0 : decode cX8_either 0 = .ok (.aload_n 0, 1) := by decide +kernel
theorem dX8_either_1 : decode cX8_either 1 = .ok (.invokevirtual 229, 3) := by decide +kernel
theorem dX8_either_4 : decode cX8_either 4 = .ok (.istore_n 1, 1) := by decide +kernel
theorem dX8_either_5 : decode cX8_either 5 = .ok (.aload_n 0, 1) := by decide +kernel
theorem dX8_either_6 : decode cX8_either 6 = .ok (.bipush 111, 2) := by decide +kernel
theorem dX8_either_8 : decode cX8_either 8 = .ok (.bipush 114, 2) := by decide +kernel
theorem dX8_either_10 : decode cX8_either 10 = .ok (.iconst 0, 1) := by decide +kernel
theorem dX8_either_11 : decode cX8_either 11 = .ok (.iconst 0, 1) := by decide +kernel
theorem dX8_either_12 : decode cX8_either 12 = .ok (.iconst 0, 1) := by decide +kernel
theorem dX8_either_13 : decode cX8_either 13 = .ok (.iconst 0, 1) := by decide +kernel
theorem dX8_either_14 : decode cX8_either 14 = .ok (.iconst 0, 1) := by decide +kernel
theorem dX8_either_15 : decode cX8_either 15 = .ok (.iconst 0, 1) := by decide +kernel
theorem dX8_either_16 : decode cX8_either 16 = .ok (.invokevirtual 177, 3) := by decide +kernel
theorem dX8_either_19 : decode cX8_either 19 = .ok (.ifCond .eq 29, 3) := by decide +kernel
theorem dX8_either_22 : decode cX8_either 22 = .ok (.aload_n 0, 1) := by decide +kernel
theorem dX8_either_23 : decode cX8_either 23 = .ok (.invokevirtual 174, 3) := by decide +kernel
theorem dX8_either_26 : decode cX8_either 26 = .ok (.aload_n 0, 1) := by decide +kernel
theorem dX8_either_27 : decode cX8_either 27 = .ok (.invokevirtual 229, 3) := by decide +kernel
theorem dX8_either_30 : decode cX8_either 30 = .ok (.istore_n 2, 1) := by decide +kernel
theorem dX8_either_31 : decode cX8_either 31 = .ok (.iload_n 1, 1) := by decide +kernel
theorem dX8_either_32 : decode cX8_either 32 = .ok (.ifCond .ne 7, 3) := by decide +kernel
theorem dX8_either_35 : decode cX8_either 35 = .ok (.iload_n 2, 1) := by decide +kernel
theorem dX8_either_36 : decode cX8_either 36 = .ok (.ifCond .eq 7, 3) := by decide +kernel
theorem dX8_either_39 : decode cX8_either 39 = .ok (.iconst 1, 1) := by decide +kernel
theorem dX8_either_40 : decode cX8_either 40 = .ok (.goto 4, 3) := by decide +kernel
theorem dX8_either_43 : decode cX8_either 43 = .ok (.iconst 0, 1) := by decide +kernel
theorem dX8_either_44 : decode cX8_either 44 = .ok (.istore_n 1, 1) := by decide +kernel
theorem dX8_either_45 : decode cX8_either 45 = .ok (.goto (-40), 3) := by decide +kernel
theorem dX8_either_48 : decode cX8_either 48 = .ok (.iload_n 1, 1) := by decide +kernel
theorem dX8_either_49 : decode cX8_either 49 = .ok (.ireturn, 1) := by decide +kernel
theorem dX8_part__0 : decode cX8_part_ 0 = .ok (.iload_n 1, 1) := by decide +kernel
theorem dX8_part__1 : decode cX8_part_ 1 = .ok (.ifCond .ne 7, 3) := by decide +kernel
theorem dX8_part__4 : decode cX8_part_ 4 = .ok (.aload_n 0, 1) := by decide +kernel
theorem dX8_part__5 : decode cX8_part_ 5 = .ok (.invokevirtual 171, 3) := by decide +kernel
theorem dX8_part__8 : decode cX8_part_ 8 = .ok (.aload_n 0, 1) := by decide +kernel
theorem dX8_part__9 : decode cX8_part_ 9 = .ok (.getfield 157, 3) := by decide +kernel
theorem dX8_part__12 : decode cX8_part_ 12 = .ok (.ifCond .ne 7, 3) := by decide +kernel
theorem dX8_part__15 : decode cX8_part_ 15 = .ok (.aload_n 0, 1) := by decide +kernel
theorem dX8_part__16 : decode cX8_part_ 16 = .ok (.invokevirtual 174, 3) := by decide +kernel
theorem dX8_part__19 : decode cX8_part_ 19 = .ok (.aload_n 0, 1) := by decide +kernel
theorem dX8_part__20 : decode cX8_part_ 20 = .ok (.getfield 157, 3) := by decide +kernel
theorem dX8_part__23 : decode cX8_part_ 23 = .ok (.ifCond .eq 7, 3) := by decide +kernel
theorem dX8_part__26 : decode cX8_part_ 26 = .ok (.iconst 0, 1) := by decide +kernel
theorem dX8_part__27 : decode cX8_part_ 27 = .ok (.goto 7, 3) := by decide +kernel
theorem dX8_part__30 : decode cX8_part_ 30 = .ok (.aload_n 0, 1) := by decide +kernel
theorem dX8_part__31 : decode cX8_part_ 31 = .ok (.invokevirtual 210, 3) := by decide +kernel
theorem dX8_part__34 : decode cX8_part_ 34 = .ok (.istore_n 2, 1) := by decide +kernel
theorem dX8_part__35 : decode cX8_part_ 35 = .ok (.aload_n 0, 1) := by decide +kernel
theorem dX8_part__36 : decode cX8_part_ 36 = .ok (.bipush 59, 2) := by decide +kernel
theorem dX8_part__38 : decode cX8_part_ 38 = .ok (.invokevirtual 199, 3) := by decide +kernel
theorem dX8_part__41 : decode cX8_part_ 41 = .ok (.ifCond .ne 7, 3) := by decide +kernel
theorem dX8_part__44 : decode cX8_part_ 44 = .ok (.aload_n 0, 1) := by decide +kernel
theorem dX8_part__45 : decode cX8_part_ 45 = .ok (.invokevirtual 171, 3) := by decide +kernel
theorem dX8_part__48 : decode cX8_part_ 48 = .ok (.aload_n 0, 1) := by decide +kernel
theorem dX8_part__49 : decode cX8_part_ 49 = .ok (.getfield 157, 3) := by decide +kernel
theorem dX8_part__52 : decode cX8_part_ 52 = .ok (.ifCond .ne 7, 3) := by decide +kernel
theorem dX8_part__55 : decode cX8_part_ 55 = .ok (.aload_n 0, 1) := by decide +kernel
theorem dX8_part__56 : decode cX8_part_ 56 = .ok (.invokevirtual 174, 3) := by decide +kernel
theorem dX8_part__59 : decode cX8_part_ 59 = .ok (.iload_n 2, 1) := by decide +kernel
theorem dX8_part__60 : decode cX8_part_ 60 = .ok (.ireturn, 1) := by decide +kernel
theorem dX8_read_0 : decode cX8_read 0 = .ok (.aload_n 0, 1) := by decide +kernel
theorem dX8_read_1 : decode cX8_read 1 = .ok (.sipush 160, 3) := by decide +kernel
theorem dX8_read_4 : decode cX8_read 4 = .ok (.iload_n 1, 1) := by decide +kernel
theorem dX8_read_5 : decode cX8_read 5 = .ok (.imul, 1) := by decide +kernel
theorem dX8_read_6 : decode cX8_read 6 = .ok (.putfield 128, 3) := by decide +kernel
theorem dX8_read_9 : decode cX8_read 9 = .ok (.aload_n 0, 1) := by decide +kernel
theorem dX8_read_10 : decode cX8_read 10 = .ok (.aload_n 0, 1) := by decide +kernel
theorem dX8_read_11 : decode cX8_read 11 = .ok (.getfield 17, 3) := by decide +kernel
theorem dX8_read_14 : decode cX8_read 14 = .ok (.iload_n 1, 1) := by decide +kernel
theorem dX8_read_15 : decode cX8_read 15 = .ok (.iaload, 1) := by decide +kernel
theorem dX8_read_16 : decode cX8_read 16 = .ok (.putfield 125, 3) := by decide +kernel
theorem dX8_read_19 : decode cX8_read 19 = .ok (.aload_n 0, 1) := by decide +kernel
theorem dX8_read_20 : decode cX8_read 20 = .ok (.iconst 0, 1) := by decide +kernel
theorem dX8_read_21 : decode cX8_read 21 = .ok (.putfield 131, 3) := by decide +kernel
theorem dX8_read_24 : decode cX8_read 24 = .ok (.aload_n 0, 1) := by decide +kernel
theorem dX8_read_25 : decode cX8_read 25 = .ok (.iconst 0, 1) := by decide +kernel
theorem dX8_read_26 : decode cX8_read 26 = .ok (.putfield 168, 3) := by decide +kernel
theorem dX8_read_29 : decode cX8_read 29 = .ok (.aload_n 0, 1) := by decide +kernel
theorem dX8_read_30 : decode cX8_read 30 = .ok (.iconst 0, 1) := by decide +kernel
theorem dX8_read_31 : decode cX8_read 31 = .ok (.putfield 157, 3) := by decide +kernel
theorem dX8_read_34 : decode cX8_read 34 = .ok (.aload_n 0, 1) := by decide +kernel
theorem dX8_read_35 : decode cX8_read 35 = .ok (.invokevirtual 174, 3) := by decide +kernel
theorem dX8_read_38 : decode cX8_read 38 = .ok (.aload_n 0, 1) := by decide +kernel
theorem dX8_read_39 : decode cX8_read 39 = .ok (.aload_n 0, 1) := by decide +kernel
theorem dX8_read_40 : decode cX8_read 40 = .ok (.bipush 105, 2) := by decide +kernel
theorem dX8_read_42 : decode cX8_read 42 = .ok (.bipush 114, 2) := by decide +kernel
theorem dX8_read_44 : decode cX8_read 44 = .ok (.bipush 111, 2) := by decide +kernel
theorem dX8_read_46 : decode cX8_read 46 = .ok (.bipush 110, 2) := by decide +kernel
theorem dX8_read_48 : decode cX8_read 48 = .ok (.bipush 115, 2) := by decide +kernel
theorem dX8_read_50 : decode cX8_read 50 = .ok (.iconst 0, 1) := by decide +kernel
theorem dX8_read_51 : decode cX8_read 51 = .ok (.iconst 0, 1) := by decide +kernel
theorem dX8_read_52 : decode cX8_read 52 = .ok (.iconst 0, 1) := by decide +kernel
theorem dX8_read_53 : decode cX8_read 53 = .ok (.invokevirtual 177, 3) := by decide +kernel
theorem dX8_read_56 : decode cX8_read 56 = .ok (.invokevirtual 232, 3) := by decide +kernel
theorem dX8_read_59 : decode cX8_read 59 = .ok (.istore_n 3, 1) := by decide +kernel
theorem dX8_read_60 : decode cX8_read 60 = .ok (.aload_n 0, 1) := by decide +kernel
theorem dX8_read_61 : decode cX8_read 61 = .ok (.getfield 157, 3) := by decide +kernel
theorem dX8_read_64 : decode cX8_read 64 = .ok (.ifCond .eq 7, 3) := by decide +kernel
theorem dX8_read_67 : decode cX8_read 67 = .ok (.iconst 0, 1) := by decide +kernel
theorem dX8_read_68 : decode cX8_read 68 = .ok (.goto 24, 3) := by decide +kernel
theorem dX8_read_71 : decode cX8_read 71 = .ok (.aload_n 0, 1) := by decide +kernel
theorem dX8_read_72 : decode cX8_read 72 = .ok (.aload_n 0, 1) := by decide +kernel
theorem dX8_read_73 : decode cX8_read 73 = .ok (.bipush 116, 2) := by decide +kernel
theorem dX8_read_75 : decode cX8_read 75 = .ok (.bipush 97, 2) := by decide +kernel
theorem dX8_read_77 : decode cX8_read 77 = .ok (.bipush 107, 2) := by decide +kernel
theorem dX8_read_79 : decode cX8_read 79 = .ok (.bipush 101, 2) := by decide +kernel
theorem dX8_read_81 : decode cX8_read 81 = .ok (.bipush 115, 2) := by decide +kernel
theorem dX8_read_83 : decode cX8_read 83 = .ok (.iconst 0, 1) := by decide +kernel
theorem dX8_read_84 : decode cX8_read 84 = .ok (.iconst 0, 1) := by decide +kernel
theorem dX8_read_85 : decode cX8_read 85 = .ok (.iconst 0, 1) := by decide +kernel
theorem dX8_read_86 : decode cX8_read 86 = .ok (.invokevirtual 177, 3) := by decide +kernel
theorem dX8_read_89 : decode cX8_read 89 = .ok (.invokevirtual 232, 3) := by decide +kernel
theorem dX8_read_92 : decode cX8_read 92 = .ok (.istore 4, 2) := by decide +kernel
theorem dX8_read_94 : decode cX8_read 94 = .ok (.aload_n 0, 1) := by decide +kernel
theorem dX8_read_95 : decode cX8_read 95 = .ok (.getfield 157, 3) := by decide +kernel
theorem dX8_read_98 : decode cX8_read 98 = .ok (.ifCond .eq 7, 3) := by decide +kernel
theorem dX8_read_101 : decode cX8_read 101 = .ok (.iconst 0, 1) := by decide +kernel
theorem dX8_read_102 : decode cX8_read 102 = .ok (.goto 27, 3) := by decide +kernel
theorem dX8_read_105 : decode cX8_read 105 = .ok (.aload_n 0, 1) := by decide +kernel
theorem dX8_read_106 : decode cX8_read 106 = .ok (.aload_n 0, 1) := by decide +kernel
theorem dX8_read_107 : decode cX8_read 107 = .ok (.bipush 99, 2) := by decide +kernel
theorem dX8_read_109 : decode cX8_read 109 = .ok (.bipush 114, 2) := by decide +kernel
theorem dX8_read_111 : decode cX8_read 111 = .ok (.bipush 117, 2) := by decide +kernel
theorem dX8_read_113 : decode cX8_read 113 = .ok (.bipush 109, 2) := by decide +kernel
theorem dX8_read_115 : decode cX8_read 115 = .ok (.bipush 112, 2) := by decide +kernel
theorem dX8_read_117 : decode cX8_read 117 = .ok (.bipush 108, 2) := by decide +kernel
theorem dX8_read_119 : decode cX8_read 119 = .ok (.bipush 101, 2) := by decide +kernel
theorem dX8_read_121 : decode cX8_read 121 = .ok (.bipush 115, 2) := by decide +kernel
theorem dX8_read_123 : decode cX8_read 123 = .ok (.invokevirtual 177, 3) := by decide +kernel
theorem dX8_read_126 : decode cX8_read 126 = .ok (.invokevirtual 232, 3) := by decide +kernel
theorem dX8_read_129 : decode cX8_read 129 = .ok (.istore 5, 2) := by decide +kernel
theorem dX8_read_131 : decode cX8_read 131 = .ok (.aload_n 0, 1) := by decide +kernel
theorem dX8_read_132 : decode cX8_read 132 = .ok (.getfield 157, 3) := by decide +kernel
theorem dX8_read_135 : decode cX8_read 135 = .ok (.ifCond .ne 14, 3) := by decide +kernel
theorem dX8_read_138 : decode cX8_read 138 = .ok (.aload_n 0, 1) := by decide +kernel
theorem dX8_read_139 : decode cX8_read 139 = .ok (.getfield 140, 3) := by decide +kernel
theorem dX8_read_142 : decode cX8_read 142 = .ok (.ifCond .eq 7, 3) := by decide +kernel
theorem dX8_read_145 : decode cX8_read 145 = .ok (.aload_n 0, 1) := by decide +kernel
theorem dX8_read_146 : decode cX8_read 146 = .ok (.invokevirtual 171, 3) := by decide +kernel
theorem dX8_read_149 : decode cX8_read 149 = .ok (.iload_n 2, 1) := by decide +kernel
theorem dX8_read_150 : decode cX8_read 150 = .ok (.ifCond .ne 7, 3) := by decide +kernel
theorem dX8_read_153 : decode cX8_read 153 = .ok (.iload_n 3, 1) := by decide +kernel
theorem dX8_read_154 : decode cX8_read 154 = .ok (.goto 15, 3) := by decide +kernel
theorem dX8_read_157 : decode cX8_read 157 = .ok (.iload_n 2, 1) := by decide +kernel
theorem dX8_read_158 : decode cX8_read 158 = .ok (.iconst 1, 1) := by decide +kernel
theorem dX8_read_159 : decode cX8_read 159 = .ok (.if_icmp .ne 8, 3) := by decide +kernel
theorem dX8_read_162 : decode cX8_read 162 = .ok (.iload 4, 2) := by decide +kernel
theorem dX8_read_164 : decode cX8_read 164 = .ok (.goto 5, 3) := by decide +kernel
theorem dX8_read_167 : decode cX8_read 167 = .ok (.iload 5, 2) := by decide +kernel
theorem dX8_read_169 : decode cX8_read 169 = .ok (.ireturn, 1) := by decide +kernel
theorem dX8_text_0 : decode cX8_text 0 = .ok (.aload_n 0, 1) := by decide +kernel
theorem dX8_text_1 : decode cX8_text 1 = .ok (.getfield 70, 3) := by decide +kernel
theorem dX8_text_4 : decode cX8_text 4 = .ok (.bipush 6, 2) := by decide +kernel
theorem dX8_text_6 : decode cX8_text 6 = .ok (.if_icmp .ne 6, 3) := by decide +kernel
theorem dX8_text_9 : decode cX8_text 9 = .ok (.bipush (-4), 2) := by decide +kernel
theorem dX8_text_11 : decode cX8_text 11 = .ok (.ireturn, 1) := by decide +kernel
theorem dX8_text_12 : decode cX8_text 12 = .ok (.iconst 0, 1) := by decide +kernel
theorem dX8_text_13 : decode cX8_text 13 = .ok (.istore_n 1, 1) := by decide +kernel
theorem dX8_text_14 : decode cX8_text 14 = .ok (.iload_n 1, 1) := by decide +kernel
theorem dX8_text_15 : decode cX8_text 15 = .ok (.aload_n 0, 1) := by decide +kernel
theorem dX8_text_16 : decode cX8_text 16 = .ok (.getfield 122, 3) := by decide +kernel
theorem dX8_text_19 : decode cX8_text 19 = .ok (.if_icmp .ge 30, 3) := by decide +kernel
theorem dX8_text_22 : decode cX8_text 22 = .ok (.aload_n 0, 1) := by decide +kernel
theorem dX8_text_23 : decode cX8_text 23 = .ok (.getfield 13, 3) := by decide +kernel
theorem dX8_text_26 : decode cX8_text 26 = .ok (.sipush 160, 3) := by decide +kernel
theorem dX8_text_29 : decode cX8_text 29 = .ok (.aload_n 0, 1) := by decide +kernel
theorem dX8_text_30 : decode cX8_text 30 = .ok (.getfield 70, 3) := by decide +kernel
theorem dX8_text_33 : decode cX8_text 33 = .ok (.imul, 1) := by decide +kernel
theorem dX8_text_34 : decode cX8_text 34 = .ok (.iload_n 1, 1) := by decide +kernel
theorem dX8_text_35 : decode cX8_text 35 = .ok (.iadd, 1) := by decide +kernel
theorem dX8_text_36 : decode cX8_text 36 = .ok (.aload_n 0, 1) := by decide +kernel
theorem dX8_text_37 : decode cX8_text 37 = .ok (.getfield 20, 3) := by decide +kernel
theorem dX8_text_40 : decode cX8_text 40 = .ok (.iload_n 1, 1) := by decide +kernel
theorem dX8_text_41 : decode cX8_text 41 = .ok (.iaload, 1) := by decide +kernel
theorem dX8_text_42 : decode cX8_text 42 = .ok (.iastore, 1) := by decide +kernel
theorem dX8_text_43 : decode cX8_text 43 = .ok (.iinc 1 1, 3) := by decide +kernel
theorem dX8_text_46 : decode cX8_text 46 = .ok (.goto (-32), 3) := by decide +kernel
theorem dX8_text_49 : decode cX8_text 49 = .ok (.aload_n 0, 1) := by decide +kernel
theorem dX8_text_50 : decode cX8_text 50 = .ok (.getfield 17, 3) := by decide +kernel
theorem dX8_text_53 : decode cX8_text 53 = .ok (.aload_n 0, 1) := by decide +kernel
theorem dX8_text_54 : decode cX8_text 54 = .ok (.getfield 70, 3) := by decide +kernel
theorem dX8_text_57 : decode cX8_text 57 = .ok (.aload_n 0, 1) := by decide +kernel
theorem dX8_text_58 : decode cX8_text 58 = .ok (.getfield 122, 3) := by decide +kernel
theorem dX8_text_61 : decode cX8_text 61 = .ok (.iastore, 1) := by decide +kernel
theorem dX8_text_62 : decode cX8_text 62 = .ok (.aload_n 0, 1) := by decide +kernel
theorem dX8_text_63 : decode cX8_text 63 = .ok (.iconst 0, 1) := by decide +kernel
theorem dX8_text_64 : decode cX8_text 64 = .ok (.putfield 122, 3) := by decide +kernel
theorem dX8_text_67 : decode cX8_text 67 = .ok (.aload_n 0, 1) := by decide +kernel
theorem dX8_text_68 : decode cX8_text 68 = .ok (.aload_n 0, 1) := by decide +kernel
theorem dX8_text_69 : decode cX8_text 69 = .ok (.getfield 70, 3) := by decide +kernel
theorem dX8_text_72 : decode cX8_text 72 = .ok (.iconst 0, 1) := by decide +kernel
theorem dX8_text_73 : decode cX8_text 73 = .ok (.invokevirtual 236, 3) := by decide +kernel
theorem dX8_text_76 : decode cX8_text 76 = .ok (.istore_n 1, 1) := by decide +kernel
theorem dX8_text_77 : decode cX8_text 77 = .ok (.aload_n 0, 1) := by decide +kernel
theorem dX8_text_78 : decode cX8_text 78 = .ok (.getfield 157, 3) := by decide +kernel
theorem dX8_text_81 : decode cX8_text 81 = .ok (.ifCond .eq 11, 3) := by decide +kernel
theorem dX8_text_84 : decode cX8_text 84 = .ok (.bipush (-100), 2) := by decide +kernel
theorem dX8_text_86 : decode cX8_text 86 = .ok (.aload_n 0, 1) := by decide +kernel
theorem dX8_text_87 : decode cX8_text 87 = .ok (.getfield 161, 3) := by decide +kernel
theorem dX8_text_90 : decode cX8_text 90 = .ok (.isub, 1) := by decide +kernel
theorem dX8_text_91 : decode cX8_text 91 = .ok (.ireturn, 1) := by decide +kernel
theorem dX8_text_92 : decode cX8_text 92 = .ok (.aload_n 0, 1) := by decide +kernel
theorem dX8_text_93 : decode cX8_text 93 = .ok (.dup, 1) := by decide +kernel
theorem dX8_text_94 : decode cX8_text 94 = .ok (.getfield 70, 3) := by decide +kernel
theorem dX8_text_97 : decode cX8_text 97 = .ok (.iconst 1, 1) := by decide +kernel
theorem dX8_text_98 : decode cX8_text 98 = .ok (.iadd, 1) := by decide +kernel
theorem dX8_text_99 : decode cX8_text 99 = .ok (.putfield 70, 3) := by decide +kernel
theorem dX8_text_102 : decode cX8_text 102 = .ok (.aload_n 0, 1) := by decide +kernel
theorem dX8_text_103 : decode cX8_text 103 = .ok (.getfield 70, 3) := by decide +kernel
theorem dX8_text_106 : decode cX8_text 106 = .ok (.iconst 1, 1) := by decide +kernel
theorem dX8_text_107 : decode cX8_text 107 = .ok (.isub, 1) := by decide +kernel
theorem dX8_text_108 : decode cX8_text 108 = .ok (.ireturn, 1) := by decide +kernel
theorem dX8_force_0 : decode cX8_force 0 = .ok (.iload_n 1, 1) := by decide +kernel
theorem dX8_force_1 : decode cX8_force 1 = .ok (.i2l, 1) := by decide +kernel
theorem dX8_force_2 : decode cX8_force 2 = .ok (.lconst 0, 1) := by decide +kernel
theorem dX8_force_3 : decode cX8_force 3 = .ok (.aload_n 0, 1) := by decide +kernel
theorem dX8_force_4 : decode cX8_force 4 = .ok (.getfield 70, 3) := by decide +kernel
theorem dX8_force_7 : decode cX8_force 7 = .ok (.iconst 1, 1) := by decide +kernel
theorem dX8_force_8 : decode cX8_force 8 = .ok (.isub, 1) := by decide +kernel
theorem dX8_force_9 : decode cX8_force 9 = .ok (.i2l, 1) := by decide +kernel
theorem dX8_force_10 : decode cX8_force 10 = .ok (.invokestatic 76, 3) := by decide +kernel
theorem dX8_force_13 : decode cX8_force 13 = .ok (.ifCond .ne 6, 3) := by decide +kernel
theorem dX8_force_16 : decode cX8_force 16 = .ok (.bipush (-2), 2) := by decide +kernel
theorem dX8_force_18 : decode cX8_force 18 = .ok (.ireturn, 1) := by decide +kernel
theorem dX8_force_19 : decode cX8_force 19 = .ok (.aload_n 0, 1) := by decide +kernel
theorem dX8_force_20 : decode cX8_force 20 = .ok (.getfield 98, 3) := by decide +kernel
theorem dX8_force_23 : decode cX8_force 23 = .ok (.istore_n 2, 1) := by decide +kernel
theorem dX8_force_24 : decode cX8_force 24 = .ok (.aload_n 0, 1) := by decide +kernel
theorem dX8_force_25 : decode cX8_force 25 = .ok (.iload_n 1, 1) := by decide +kernel
theorem dX8_force_26 : decode cX8_force 26 = .ok (.putfield 98, 3) := by decide +kernel
theorem dX8_force_29 : decode cX8_force 29 = .ok (.iload_n 2, 1) := by decide +kernel
theorem dX8_force_30 : decode cX8_force 30 = .ok (.ireturn, 1) := by decide +kernel
theorem dX8_begins_0 : decode cX8_begins 0 = .ok (.aload_n 0, 1) := by decide +kernel
theorem dX8_begins_1 : decode cX8_begins 1 = .ok (.iconst 0, 1) := by decide +kernel
theorem dX8_begins_2 : decode cX8_begins 2 = .ok (.putfield 239, 3) := by decide +kernel
theorem dX8_begins_5 : decode cX8_begins 5 = .ok (.aload_n 0, 1) := by decide +kernel
theorem dX8_begins_6 : decode cX8_begins 6 = .ok (.iconst 0, 1) := by decide +kernel
theorem dX8_begins_7 : decode cX8_begins 7 = .ok (.putfield 242, 3) := by decide +kernel
theorem dX8_begins_10 : decode cX8_begins 10 = .ok (.iconst 0, 1) := by decide +kernel
theorem dX8_begins_11 : decode cX8_begins 11 = .ok (.istore_n 1, 1) := by decide +kernel
theorem dX8_begins_12 : decode cX8_begins 12 = .ok (.iload_n 1, 1) := by decide +kernel
theorem dX8_begins_13 : decode cX8_begins 13 = .ok (.aload_n 0, 1) := by decide +kernel
theorem dX8_begins_14 : decode cX8_begins 14 = .ok (.getfield 73, 3) := by decide +kernel
theorem dX8_begins_17 : decode cX8_begins 17 = .ok (.if_icmp .ge 32, 3) := by decide +kernel
theorem dX8_begins_20 : decode cX8_begins 20 = .ok (.aload_n 0, 1) := by decide +kernel
theorem dX8_begins_21 : decode cX8_begins 21 = .ok (.getfield 35, 3) := by decide +kernel
theorem dX8_begins_24 : decode cX8_begins 24 = .ok (.iload_n 1, 1) := by decide +kernel
theorem dX8_begins_25 : decode cX8_begins 25 = .ok (.aload_n 0, 1) := by decide +kernel
theorem dX8_begins_26 : decode cX8_begins 26 = .ok (.getfield 32, 3) := by decide +kernel
theorem dX8_begins_29 : decode cX8_begins 29 = .ok (.iconst 3, 1) := by decide +kernel
theorem dX8_begins_30 : decode cX8_begins 30 = .ok (.iload_n 1, 1) := by decide +kernel
theorem dX8_begins_31 : decode cX8_begins 31 = .ok (.imul, 1) := by decide +kernel
theorem dX8_begins_32 : decode cX8_begins 32 = .ok (.iconst 1, 1) := by decide +kernel
theorem dX8_begins_33 : decode cX8_begins 33 = .ok (.iadd, 1) := by decide +kernel
theorem dX8_begins_34 : decode cX8_begins 34 = .ok (.iaload, 1) := by decide +kernel
theorem dX8_begins_35 : decode cX8_begins 35 = .ok (.iastore, 1) := by decide +kernel
theorem dX8_begins_36 : decode cX8_begins 36 = .ok (.aload_n 0, 1) := by decide +kernel
theorem dX8_begins_37 : decode cX8_begins 37 = .ok (.getfield 38, 3) := by decide +kernel
theorem dX8_begins_40 : decode cX8_begins 40 = .ok (.iload_n 1, 1) := by decide +kernel
theorem dX8_begins_41 : decode cX8_begins 41 = .ok (.iconst (-1), 1) := by decide +kernel
theorem dX8_begins_42 : decode cX8_begins 42 = .ok (.iastore, 1) := by decide +kernel
theorem dX8_begins_43 : decode cX8_begins 43 = .ok (.iinc 1 1, 3) := by decide +kernel
theorem dX8_begins_46 : decode cX8_begins 46 = .ok (.goto (-34), 3) := by decide +kernel
theorem dX8_begins_49 : decode cX8_begins 49 = .ok (.return_, 1) := by decide +kernel
theorem dX8_asks_0 : decode cX8_asks 0 = .ok (.aload_n 0, 1) := by decide +kernel
theorem dX8_asks_1 : decode cX8_asks 1 = .ok (.aload_n 0, 1) := by decide +kernel
theorem dX8_asks_2 : decode cX8_asks 2 = .ok (.getfield 239, 3) := by decide +kernel
theorem dX8_asks_5 : decode cX8_asks 5 = .ok (.putfield 181, 3) := by decide +kernel
theorem dX8_asks_8 : decode cX8_asks 8 = .ok (.aload_n 0, 1) := by decide +kernel
theorem dX8_asks_9 : decode cX8_asks 9 = .ok (.aload_n 0, 1) := by decide +kernel
theorem dX8_asks_10 : decode cX8_asks 10 = .ok (.getfield 26, 3) := by decide +kernel
theorem dX8_asks_13 : decode cX8_asks 13 = .ok (.aload_n 0, 1) := by decide +kernel
theorem dX8_asks_14 : decode cX8_asks 14 = .ok (.getfield 239, 3) := by decide +kernel
theorem dX8_asks_17 : decode cX8_asks 17 = .ok (.aload_n 0, 1) := by decide +kernel
theorem dX8_asks_18 : decode cX8_asks 18 = .ok (.getfield 242, 3) := by decide +kernel
theorem dX8_asks_21 : decode cX8_asks 21 = .ok (.isub, 1) := by decide +kernel
theorem dX8_asks_22 : decode cX8_asks 22 = .ok (.isub, 1) := by decide +kernel
theorem dX8_asks_23 : decode cX8_asks 23 = .ok (.iconst 0, 1) := by decide +kernel
theorem dX8_asks_24 : decode cX8_asks 24 = .ok (.bipush 99, 2) := by decide +kernel
theorem dX8_asks_26 : decode cX8_asks 26 = .ok (.invokestatic 245, 3) := by decide +kernel
theorem dX8_asks_29 : decode cX8_asks 29 = .ok (.putfield 184, 3) := by decide +kernel
theorem dX8_asks_32 : decode cX8_asks 32 = .ok (.aload_n 0, 1) := by decide +kernel
theorem dX8_asks_33 : decode cX8_asks 33 = .ok (.aload_n 0, 1) := by decide +kernel
theorem dX8_asks_34 : decode cX8_asks 34 = .ok (.getfield 23, 3) := by decide +kernel
theorem dX8_asks_37 : decode cX8_asks 37 = .ok (.putfield 187, 3) := by decide +kernel
theorem dX8_asks_40 : decode cX8_asks 40 = .ok (.aload_n 0, 1) := by decide +kernel
theorem dX8_asks_41 : decode cX8_asks 41 = .ok (.aload_n 0, 1) := by decide +kernel
theorem dX8_asks_42 : decode cX8_asks 42 = .ok (.getfield 32, 3) := by decide +kernel
theorem dX8_asks_45 : decode cX8_asks 45 = .ok (.iconst 3, 1) := by decide +kernel
theorem dX8_asks_46 : decode cX8_asks 46 = .ok (.iload_n 2, 1) := by decide +kernel
theorem dX8_asks_47 : decode cX8_asks 47 = .ok (.imul, 1) := by decide +kernel
theorem dX8_asks_48 : decode cX8_asks 48 = .ok (.iaload, 1) := by decide +kernel
theorem dX8_asks_49 : decode cX8_asks 49 = .ok (.putfield 190, 3) := by decide +kernel
theorem dX8_asks_52 : decode cX8_asks 52 = .ok (.aload_n 0, 1) := by decide +kernel
theorem dX8_asks_53 : decode cX8_asks 53 = .ok (.aload_n 0, 1) := by decide +kernel
theorem dX8_asks_54 : decode cX8_asks 54 = .ok (.getfield 35, 3) := by decide +kernel
theorem dX8_asks_57 : decode cX8_asks 57 = .ok (.iload_n 2, 1) := by decide +kernel
theorem dX8_asks_58 : decode cX8_asks 58 = .ok (.iaload, 1) := by decide +kernel
theorem dX8_asks_59 : decode cX8_asks 59 = .ok (.putfield 193, 3) := by decide +kernel
theorem dX8_asks_62 : decode cX8_asks 62 = .ok (.aload_n 0, 1) := by decide +kernel
theorem dX8_asks_63 : decode cX8_asks 63 = .ok (.iload_n 2, 1) := by decide +kernel
theorem dX8_asks_64 : decode cX8_asks 64 = .ok (.putfield 196, 3) := by decide +kernel
theorem dX8_asks_67 : decode cX8_asks 67 = .ok (.aload_n 0, 1) := by decide +kernel
theorem dX8_asks_68 : decode cX8_asks 68 = .ok (.aload_n 0, 1) := by decide +kernel
theorem dX8_asks_69 : decode cX8_asks 69 = .ok (.getfield 98, 3) := by decide +kernel
theorem dX8_asks_72 : decode cX8_asks 72 = .ok (.iload_n 1, 1) := by decide +kernel
theorem dX8_asks_73 : decode cX8_asks 73 = .ok (.invokevirtual 236, 3) := by decide +kernel
theorem dX8_asks_76 : decode cX8_asks 76 = .ok (.iconst 0, 1) := by decide +kernel
theorem dX8_asks_77 : decode cX8_asks 77 = .ok (.iload_n 1, 1) := by decide +kernel
theorem dX8_asks_78 : decode cX8_asks 78 = .ok (.iconst 1, 1) := by decide +kernel
theorem dX8_asks_79 : decode cX8_asks 79 = .ok (.if_icmp .ne 8, 3) := by decide +kernel
theorem dX8_asks_82 : decode cX8_asks 82 = .ok (.bipush 30, 2) := by decide +kernel
theorem dX8_asks_84 : decode cX8_asks 84 = .ok (.goto 5, 3) := by decide +kernel
theorem dX8_asks_87 : decode cX8_asks 87 = .ok (.bipush 99, 2) := by decide +kernel
theorem dX8_asks_89 : decode cX8_asks 89 = .ok (.invokestatic 245, 3) := by decide +kernel
theorem dX8_asks_92 : decode cX8_asks 92 = .ok (.ireturn, 1) := by decide +kernel
theorem dX8_keepsOf_0 : decode cX8_keepsOf 0 = .ok (.aload_n 0, 1) := by decide +kernel
theorem dX8_keepsOf_1 : decode cX8_keepsOf 1 = .ok (.getfield 29, 3) := by decide +kernel
theorem dX8_keepsOf_4 : decode cX8_keepsOf 4 = .ok (.iload_n 1, 1) := by decide +kernel
theorem dX8_keepsOf_5 : decode cX8_keepsOf 5 = .ok (.iaload, 1) := by decide +kernel
theorem dX8_keepsOf_6 : decode cX8_keepsOf 6 = .ok (.istore_n 2, 1) := by decide +kernel
theorem dX8_keepsOf_7 : decode cX8_keepsOf 7 = .ok (.aload_n 0, 1) := by decide +kernel
theorem dX8_keepsOf_8 : decode cX8_keepsOf 8 = .ok (.getfield 32, 3) := by decide +kernel
theorem dX8_keepsOf_11 : decode cX8_keepsOf 11 = .ok (.iconst 3, 1) := by decide +kernel
theorem dX8_keepsOf_12 : decode cX8_keepsOf 12 = .ok (.iload_n 1, 1) := by decide +kernel
theorem dX8_keepsOf_13 : decode cX8_keepsOf 13 = .ok (.imul, 1) := by decide +kernel
theorem dX8_keepsOf_14 : decode cX8_keepsOf 14 = .ok (.iaload, 1) := by decide +kernel
theorem dX8_keepsOf_15 : decode cX8_keepsOf 15 = .ok (.istore_n 3, 1) := by decide +kernel
theorem dX8_keepsOf_16 : decode cX8_keepsOf 16 = .ok (.aload_n 0, 1) := by decide +kernel
theorem dX8_keepsOf_17 : decode cX8_keepsOf 17 = .ok (.iconst 0, 1) := by decide +kernel
theorem dX8_keepsOf_18 : decode cX8_keepsOf 18 = .ok (.iload_n 1, 1) := by decide +kernel
theorem dX8_keepsOf_19 : decode cX8_keepsOf 19 = .ok (.invokevirtual 249, 3) := by decide +kernel
theorem dX8_keepsOf_22 : decode cX8_keepsOf 22 = .ok (.istore 4, 2) := by decide +kernel
theorem dX8_keepsOf_24 : decode cX8_keepsOf 24 = .ok (.aload_n 0, 1) := by decide +kernel
theorem dX8_keepsOf_25 : decode cX8_keepsOf 25 = .ok (.getfield 35, 3) := by decide +kernel
theorem dX8_keepsOf_28 : decode cX8_keepsOf 28 = .ok (.iload_n 1, 1) := by decide +kernel
theorem dX8_keepsOf_29 : decode cX8_keepsOf 29 = .ok (.iaload, 1) := by decide +kernel
theorem dX8_keepsOf_30 : decode cX8_keepsOf 30 = .ok (.iconst 2, 1) := by decide +kernel
theorem dX8_keepsOf_31 : decode cX8_keepsOf 31 = .ok (.idiv, 1) := by decide +kernel
theorem dX8_keepsOf_32 : decode cX8_keepsOf 32 = .ok (.istore 5, 2) := by decide +kernel
theorem dX8_keepsOf_34 : decode cX8_keepsOf 34 = .ok (.iload_n 2, 1) := by decide +kernel
theorem dX8_keepsOf_35 : decode cX8_keepsOf 35 = .ok (.iconst 1, 1) := by decide +kernel
theorem dX8_keepsOf_36 : decode cX8_keepsOf 36 = .ok (.if_icmp .eq 8, 3) := by decide +kernel
theorem dX8_keepsOf_39 : decode cX8_keepsOf 39 = .ok (.iload_n 2, 1) := by decide +kernel
theorem dX8_keepsOf_40 : decode cX8_keepsOf 40 = .ok (.iconst 3, 1) := by decide +kernel
theorem dX8_keepsOf_41 : decode cX8_keepsOf 41 = .ok (.if_icmp .ne 10, 3) := by decide +kernel
theorem dX8_keepsOf_44 : decode cX8_keepsOf 44 = .ok (.iload 4, 2) := by decide +kernel
theorem dX8_keepsOf_46 : decode cX8_keepsOf 46 = .ok (.iconst 2, 1) := by decide +kernel
theorem dX8_keepsOf_47 : decode cX8_keepsOf 47 = .ok (.idiv, 1) := by decide +kernel
theorem dX8_keepsOf_48 : decode cX8_keepsOf 48 = .ok (.goto 57, 3) := by decide +kernel
theorem dX8_keepsOf_51 : decode cX8_keepsOf 51 = .ok (.iload_n 2, 1) := by decide +kernel
theorem dX8_keepsOf_52 : decode cX8_keepsOf 52 = .ok (.iconst 2, 1) := by decide +kernel
theorem dX8_keepsOf_53 : decode cX8_keepsOf 53 = .ok (.if_icmp .ne 10, 3) := by decide +kernel
theorem dX8_keepsOf_56 : decode cX8_keepsOf 56 = .ok (.iload 4, 2) := by decide +kernel
theorem dX8_keepsOf_58 : decode cX8_keepsOf 58 = .ok (.iload_n 3, 1) := by decide +kernel
theorem dX8_keepsOf_59 : decode cX8_keepsOf 59 = .ok (.iadd, 1) := by decide +kernel
theorem dX8_keepsOf_60 : decode cX8_keepsOf 60 = .ok (.goto 45, 3) := by decide +kernel
theorem dX8_keepsOf_63 : decode cX8_keepsOf 63 = .ok (.iload_n 2, 1) := by decide +kernel
theorem dX8_keepsOf_64 : decode cX8_keepsOf 64 = .ok (.iconst 4, 1) := by decide +kernel
theorem dX8_keepsOf_65 : decode cX8_keepsOf 65 = .ok (.if_icmp .ne 22, 3) := by decide +kernel
theorem dX8_keepsOf_68 : decode cX8_keepsOf 68 = .ok (.iload 4, 2) := by decide +kernel
theorem dX8_keepsOf_70 : decode cX8_keepsOf 70 = .ok (.iload 5, 2) := by decide +kernel
theorem dX8_keepsOf_72 : decode cX8_keepsOf 72 = .ok (.if_icmp .ge 8, 3) := by decide +kernel
theorem dX8_keepsOf_75 : decode cX8_keepsOf 75 = .ok (.iload 4, 2) := by decide +kernel
theorem dX8_keepsOf_77 : decode cX8_keepsOf 77 = .ok (.goto 5, 3) := by decide +kernel
theorem dX8_keepsOf_80 : decode cX8_keepsOf 80 = .ok (.iload 5, 2) := by decide +kernel
theorem dX8_keepsOf_82 : decode cX8_keepsOf 82 = .ok (.iload_n 3, 1) := by decide +kernel
theorem dX8_keepsOf_83 : decode cX8_keepsOf 83 = .ok (.iadd, 1) := by decide +kernel
theorem dX8_keepsOf_84 : decode cX8_keepsOf 84 = .ok (.goto 21, 3) := by decide +kernel
theorem dX8_keepsOf_87 : decode cX8_keepsOf 87 = .ok (.iload_n 2, 1) := by decide +kernel
theorem dX8_keepsOf_88 : decode cX8_keepsOf 88 = .ok (.iconst 5, 1) := by decide +kernel
theorem dX8_keepsOf_89 : decode cX8_keepsOf 89 = .ok (.if_icmp .ne 14, 3) := by decide +kernel
theorem dX8_keepsOf_92 : decode cX8_keepsOf 92 = .ok (.aload_n 0, 1) := by decide +kernel
theorem dX8_keepsOf_93 : decode cX8_keepsOf 93 = .ok (.getfield 35, 3) := by decide +kernel
theorem dX8_keepsOf_96 : decode cX8_keepsOf 96 = .ok (.iload_n 1, 1) := by decide +kernel
theorem dX8_keepsOf_97 : decode cX8_keepsOf 97 = .ok (.iaload, 1) := by decide +kernel
theorem dX8_keepsOf_98 : decode cX8_keepsOf 98 = .ok (.iconst 3, 1) := by decide +kernel
theorem dX8_keepsOf_99 : decode cX8_keepsOf 99 = .ok (.idiv, 1) := by decide +kernel
theorem dX8_keepsOf_100 : decode cX8_keepsOf 100 = .ok (.goto 5, 3) := by decide +kernel
theorem dX8_keepsOf_103 : decode cX8_keepsOf 103 = .ok (.iload 4, 2) := by decide +kernel
theorem dX8_keepsOf_105 : decode cX8_keepsOf 105 = .ok (.istore 6, 2) := by decide +kernel
theorem dX8_keepsOf_107 : decode cX8_keepsOf 107 = .ok (.iload 6, 2) := by decide +kernel
theorem dX8_keepsOf_109 : decode cX8_keepsOf 109 = .ok (.iconst 0, 1) := by decide +kernel
theorem dX8_keepsOf_110 : decode cX8_keepsOf 110 = .ok (.bipush 99, 2) := by decide +kernel
theorem dX8_keepsOf_112 : decode cX8_keepsOf 112 = .ok (.invokestatic 245, 3) := by decide +kernel
theorem dX8_keepsOf_115 : decode cX8_keepsOf 115 = .ok (.ireturn, 1) := by decide +kernel
theorem dX8_takesOf_0 : decode cX8_takesOf 0 = .ok (.aload_n 0, 1) := by decide +kernel
theorem dX8_takesOf_1 : decode cX8_takesOf 1 = .ok (.getfield 29, 3) := by decide +kernel
theorem dX8_takesOf_4 : decode cX8_takesOf 4 = .ok (.iload_n 1, 1) := by decide +kernel
theorem dX8_takesOf_5 : decode cX8_takesOf 5 = .ok (.iaload, 1) := by decide +kernel
theorem dX8_takesOf_6 : decode cX8_takesOf 6 = .ok (.istore_n 2, 1) := by decide +kernel
theorem dX8_takesOf_7 : decode cX8_takesOf 7 = .ok (.aload_n 0, 1) := by decide +kernel
theorem dX8_takesOf_8 : decode cX8_takesOf 8 = .ok (.iconst 1, 1) := by decide +kernel
theorem dX8_takesOf_9 : decode cX8_takesOf 9 = .ok (.iload_n 1, 1) := by decide +kernel
theorem dX8_takesOf_10 : decode cX8_takesOf 10 = .ok (.invokevirtual 249, 3) := by decide +kernel
theorem dX8_takesOf_13 : decode cX8_takesOf 13 = .ok (.istore_n 3, 1) := by decide +kernel
theorem dX8_takesOf_14 : decode cX8_takesOf 14 = .ok (.iload_n 2, 1) := by decide +kernel
theorem dX8_takesOf_15 : decode cX8_takesOf 15 = .ok (.iconst 1, 1) := by decide +kernel
theorem dX8_takesOf_16 : decode cX8_takesOf 16 = .ok (.if_icmp .ne 9, 3) := by decide +kernel
theorem dX8_takesOf_19 : decode cX8_takesOf 19 = .ok (.iconst 2, 1) := by decide +kernel
theorem dX8_takesOf_20 : decode cX8_takesOf 20 = .ok (.iload_n 3, 1) := by decide +kernel
theorem dX8_takesOf_21 : decode cX8_takesOf 21 = .ok (.imul, 1) := by decide +kernel
theorem dX8_takesOf_22 : decode cX8_takesOf 22 = .ok (.goto 44, 3) := by decide +kernel
theorem dX8_takesOf_25 : decode cX8_takesOf 25 = .ok (.iload_n 2, 1) := by decide +kernel
theorem dX8_takesOf_26 : decode cX8_takesOf 26 = .ok (.iconst 3, 1) := by decide +kernel
theorem dX8_takesOf_27 : decode cX8_takesOf 27 = .ok (.if_icmp .ne 18, 3) := by decide +kernel
theorem dX8_takesOf_30 : decode cX8_takesOf 30 = .ok (.iconst 2, 1) := by decide +kernel
theorem dX8_takesOf_31 : decode cX8_takesOf 31 = .ok (.iload_n 3, 1) := by decide +kernel
theorem dX8_takesOf_32 : decode cX8_takesOf 32 = .ok (.imul, 1) := by decide +kernel
theorem dX8_takesOf_33 : decode cX8_takesOf 33 = .ok (.aload_n 0, 1) := by decide +kernel
theorem dX8_takesOf_34 : decode cX8_takesOf 34 = .ok (.getfield 32, 3) := by decide +kernel
theorem dX8_takesOf_37 : decode cX8_takesOf 37 = .ok (.iconst 3, 1) := by decide +kernel
theorem dX8_takesOf_38 : decode cX8_takesOf 38 = .ok (.iload_n 1, 1) := by decide +kernel
theorem dX8_takesOf_39 : decode cX8_takesOf 39 = .ok (.imul, 1) := by decide +kernel
theorem dX8_takesOf_40 : decode cX8_takesOf 40 = .ok (.iaload, 1) := by decide +kernel
theorem dX8_takesOf_41 : decode cX8_takesOf 41 = .ok (.iadd, 1) := by decide +kernel
theorem dX8_takesOf_42 : decode cX8_takesOf 42 = .ok (.goto 24, 3) := by decide +kernel
theorem dX8_takesOf_45 : decode cX8_takesOf 45 = .ok (.iload_n 2, 1) := by decide +kernel
theorem dX8_takesOf_46 : decode cX8_takesOf 46 = .ok (.iconst 4, 1) := by decide +kernel
theorem dX8_takesOf_47 : decode cX8_takesOf 47 = .ok (.if_icmp .ne 9, 3) := by decide +kernel
theorem dX8_takesOf_50 : decode cX8_takesOf 50 = .ok (.iload_n 3, 1) := by decide +kernel
theorem dX8_takesOf_51 : decode cX8_takesOf 51 = .ok (.iconst 2, 1) := by decide +kernel
theorem dX8_takesOf_52 : decode cX8_takesOf 52 = .ok (.idiv, 1) := by decide +kernel
theorem dX8_takesOf_53 : decode cX8_takesOf 53 = .ok (.goto 13, 3) := by decide +kernel
theorem dX8_takesOf_56 : decode cX8_takesOf 56 = .ok (.iload_n 2, 1) := by decide +kernel
theorem dX8_takesOf_57 : decode cX8_takesOf 57 = .ok (.iconst 5, 1) := by decide +kernel
theorem dX8_takesOf_58 : decode cX8_takesOf 58 = .ok (.if_icmp .ne 7, 3) := by decide +kernel
theorem dX8_takesOf_61 : decode cX8_takesOf 61 = .ok (.iconst 1, 1) := by decide +kernel
theorem dX8_takesOf_62 : decode cX8_takesOf 62 = .ok (.goto 4, 3) := by decide +kernel
theorem dX8_takesOf_65 : decode cX8_takesOf 65 = .ok (.iload_n 3, 1) := by decide +kernel
theorem dX8_takesOf_66 : decode cX8_takesOf 66 = .ok (.istore 4, 2) := by decide +kernel
theorem dX8_takesOf_68 : decode cX8_takesOf 68 = .ok (.iload 4, 2) := by decide +kernel
theorem dX8_takesOf_70 : decode cX8_takesOf 70 = .ok (.iconst 1, 1) := by decide +kernel
theorem dX8_takesOf_71 : decode cX8_takesOf 71 = .ok (.if_icmp .ge 7, 3) := by decide +kernel
theorem dX8_takesOf_74 : decode cX8_takesOf 74 = .ok (.iconst 1, 1) := by decide +kernel
theorem dX8_takesOf_75 : decode cX8_takesOf 75 = .ok (.goto 5, 3) := by decide +kernel
theorem dX8_takesOf_78 : decode cX8_takesOf 78 = .ok (.iload 4, 2) := by decide +kernel
theorem dX8_takesOf_80 : decode cX8_takesOf 80 = .ok (.ireturn, 1) := by decide +kernel
theorem dX8_crumplesOf_0 : decode cX8_crumplesOf 0 = .ok (.aload_n 0, 1) := by decide +kernel
theorem dX8_crumplesOf_1 : decode cX8_crumplesOf 1 = .ok (.getfield 29, 3) := by decide +kernel
theorem dX8_crumplesOf_4 : decode cX8_crumplesOf 4 = .ok (.iload_n 1, 1) := by decide +kernel
theorem dX8_crumplesOf_5 : decode cX8_crumplesOf 5 = .ok (.iaload, 1) := by decide +kernel
theorem dX8_crumplesOf_6 : decode cX8_crumplesOf 6 = .ok (.istore_n 2, 1) := by decide +kernel
theorem dX8_crumplesOf_7 : decode cX8_crumplesOf 7 = .ok (.aload_n 0, 1) := by decide +kernel
theorem dX8_crumplesOf_8 : decode cX8_crumplesOf 8 = .ok (.iconst 2, 1) := by decide +kernel
theorem dX8_crumplesOf_9 : decode cX8_crumplesOf 9 = .ok (.iload_n 1, 1) := by decide +kernel
theorem dX8_crumplesOf_10 : decode cX8_crumplesOf 10 = .ok (.invokevirtual 249, 3) := by decide +kernel
theorem dX8_crumplesOf_13 : decode cX8_crumplesOf 13 = .ok (.istore_n 3, 1) := by decide +kernel
theorem dX8_crumplesOf_14 : decode cX8_crumplesOf 14 = .ok (.iload_n 2, 1) := by decide +kernel
theorem dX8_crumplesOf_15 : decode cX8_crumplesOf 15 = .ok (.iconst 1, 1) := by decide +kernel
theorem dX8_crumplesOf_16 : decode cX8_crumplesOf 16 = .ok (.if_icmp .eq 8, 3) := by decide +kernel
theorem dX8_crumplesOf_19 : decode cX8_crumplesOf 19 = .ok (.iload_n 2, 1) := by decide +kernel
theorem dX8_crumplesOf_20 : decode cX8_crumplesOf 20 = .ok (.iconst 3, 1) := by decide +kernel
theorem dX8_crumplesOf_21 : decode cX8_crumplesOf 21 = .ok (.if_icmp .ne 9, 3) := by decide +kernel
theorem dX8_crumplesOf_24 : decode cX8_crumplesOf 24 = .ok (.iload_n 3, 1) := by decide +kernel
theorem dX8_crumplesOf_25 : decode cX8_crumplesOf 25 = .ok (.iconst 2, 1) := by decide +kernel
theorem dX8_crumplesOf_26 : decode cX8_crumplesOf 26 = .ok (.isub, 1) := by decide +kernel
theorem dX8_crumplesOf_27 : decode cX8_crumplesOf 27 = .ok (.goto 29, 3) := by decide +kernel
theorem dX8_crumplesOf_30 : decode cX8_crumplesOf 30 = .ok (.iload_n 2, 1) := by decide +kernel
theorem dX8_crumplesOf_31 : decode cX8_crumplesOf 31 = .ok (.iconst 2, 1) := by decide +kernel
theorem dX8_crumplesOf_32 : decode cX8_crumplesOf 32 = .ok (.if_icmp .eq 8, 3) := by decide +kernel
theorem dX8_crumplesOf_35 : decode cX8_crumplesOf 35 = .ok (.iload_n 2, 1) := by decide +kernel
theorem dX8_crumplesOf_36 : decode cX8_crumplesOf 36 = .ok (.iconst 4, 1) := by decide +kernel
theorem dX8_crumplesOf_37 : decode cX8_crumplesOf 37 = .ok (.if_icmp .ne 9, 3) := by decide +kernel
theorem dX8_crumplesOf_40 : decode cX8_crumplesOf 40 = .ok (.iconst 2, 1) := by decide +kernel
theorem dX8_crumplesOf_41 : decode cX8_crumplesOf 41 = .ok (.iload_n 3, 1) := by decide +kernel
theorem dX8_crumplesOf_42 : decode cX8_crumplesOf 42 = .ok (.imul, 1) := by decide +kernel
theorem dX8_crumplesOf_43 : decode cX8_crumplesOf 43 = .ok (.goto 13, 3) := by decide +kernel
theorem dX8_crumplesOf_46 : decode cX8_crumplesOf 46 = .ok (.iload_n 2, 1) := by decide +kernel
theorem dX8_crumplesOf_47 : decode cX8_crumplesOf 47 = .ok (.iconst 5, 1) := by decide +kernel
theorem dX8_crumplesOf_48 : decode cX8_crumplesOf 48 = .ok (.if_icmp .ne 7, 3) := by decide +kernel
theorem dX8_crumplesOf_51 : decode cX8_crumplesOf 51 = .ok (.iconst 0, 1) := by decide +kernel
theorem dX8_crumplesOf_52 : decode cX8_crumplesOf 52 = .ok (.goto 4, 3) := by decide +kernel
theorem dX8_crumplesOf_55 : decode cX8_crumplesOf 55 = .ok (.iload_n 3, 1) := by decide +kernel
theorem dX8_crumplesOf_56 : decode cX8_crumplesOf 56 = .ok (.istore 4, 2) := by decide +kernel
theorem dX8_crumplesOf_58 : decode cX8_crumplesOf 58 = .ok (.iload 4, 2) := by decide +kernel
theorem dX8_crumplesOf_60 : decode cX8_crumplesOf 60 = .ok (.ifCond .ge 7, 3) := by decide +kernel
theorem dX8_crumplesOf_63 : decode cX8_crumplesOf 63 = .ok (.iconst 0, 1) := by decide +kernel
theorem dX8_crumplesOf_64 : decode cX8_crumplesOf 64 = .ok (.goto 5, 3) := by decide +kernel
theorem dX8_crumplesOf_67 : decode cX8_crumplesOf 67 = .ok (.iload 4, 2) := by decide +kernel
theorem dX8_crumplesOf_69 : decode cX8_crumplesOf 69 = .ok (.ireturn, 1) := by decide +kernel
theorem dX8_irons_0 : decode cX8_irons 0 = .ok (.aload_n 0, 1) := by decide +kernel
theorem dX8_irons_1 : decode cX8_irons 1 = .ok (.iload_n 1, 1) := by decide +kernel
theorem dX8_irons_2 : decode cX8_irons 2 = .ok (.invokevirtual 114, 3) := by decide +kernel
theorem dX8_irons_5 : decode cX8_irons 5 = .ok (.istore_n 2, 1) := by decide +kernel
theorem dX8_irons_6 : decode cX8_irons 6 = .ok (.aload_n 0, 1) := by decide +kernel
theorem dX8_irons_7 : decode cX8_irons 7 = .ok (.iload_n 1, 1) := by decide +kernel
theorem dX8_irons_8 : decode cX8_irons 8 = .ok (.invokevirtual 111, 3) := by decide +kernel
theorem dX8_irons_11 : decode cX8_irons 11 = .ok (.istore_n 3, 1) := by decide +kernel
theorem dX8_irons_12 : decode cX8_irons 12 = .ok (.aload_n 0, 1) := by decide +kernel
theorem dX8_irons_13 : decode cX8_irons 13 = .ok (.dup, 1) := by decide +kernel
theorem dX8_irons_14 : decode cX8_irons 14 = .ok (.getfield 239, 3) := by decide +kernel
theorem dX8_irons_17 : decode cX8_irons 17 = .ok (.iload_n 2, 1) := by decide +kernel
theorem dX8_irons_18 : decode cX8_irons 18 = .ok (.iadd, 1) := by decide +kernel
theorem dX8_irons_19 : decode cX8_irons 19 = .ok (.putfield 239, 3) := by decide +kernel
theorem dX8_irons_22 : decode cX8_irons 22 = .ok (.aload_n 0, 1) := by decide +kernel
theorem dX8_irons_23 : decode cX8_irons 23 = .ok (.getfield 35, 3) := by decide +kernel
theorem dX8_irons_26 : decode cX8_irons 26 = .ok (.iload_n 1, 1) := by decide +kernel
theorem dX8_irons_27 : decode cX8_irons 27 = .ok (.iload_n 3, 1) := by decide +kernel
theorem dX8_irons_28 : decode cX8_irons 28 = .ok (.iastore, 1) := by decide +kernel
theorem dX8_irons_29 : decode cX8_irons 29 = .ok (.aload_n 0, 1) := by decide +kernel
theorem dX8_irons_30 : decode cX8_irons 30 = .ok (.getfield 38, 3) := by decide +kernel
theorem dX8_irons_33 : decode cX8_irons 33 = .ok (.iload_n 1, 1) := by decide +kernel
theorem dX8_irons_34 : decode cX8_irons 34 = .ok (.aload_n 0, 1) := by decide +kernel
theorem dX8_irons_35 : decode cX8_irons 35 = .ok (.getfield 239, 3) := by decide +kernel
theorem dX8_irons_38 : decode cX8_irons 38 = .ok (.iastore, 1) := by decide +kernel
theorem dX8_irons_39 : decode cX8_irons 39 = .ok (.iconst 0, 1) := by decide +kernel
theorem dX8_irons_40 : decode cX8_irons 40 = .ok (.istore 4, 2) := by decide +kernel
theorem dX8_irons_42 : decode cX8_irons 42 = .ok (.iload 4, 2) := by decide +kernel
theorem dX8_irons_44 : decode cX8_irons 44 = .ok (.aload_n 0, 1) := by decide +kernel
theorem dX8_irons_45 : decode cX8_irons 45 = .ok (.getfield 73, 3) := by decide +kernel
theorem dX8_irons_48 : decode cX8_irons 48 = .ok (.if_icmp .ge 61, 3) := by decide +kernel
theorem dX8_irons_51 : decode cX8_irons 51 = .ok (.iload 4, 2) := by decide +kernel
theorem dX8_irons_53 : decode cX8_irons 53 = .ok (.iload_n 1, 1) := by decide +kernel
theorem dX8_irons_54 : decode cX8_irons 54 = .ok (.if_icmp .eq 49, 3) := by decide +kernel
theorem dX8_irons_57 : decode cX8_irons 57 = .ok (.aload_n 0, 1) := by decide +kernel
theorem dX8_irons_58 : decode cX8_irons 58 = .ok (.getfield 32, 3) := by decide +kernel
theorem dX8_irons_61 : decode cX8_irons 61 = .ok (.iconst 3, 1) := by decide +kernel
theorem dX8_irons_62 : decode cX8_irons 62 = .ok (.iload_n 1, 1) := by decide +kernel
theorem dX8_irons_63 : decode cX8_irons 63 = .ok (.imul, 1) := by decide +kernel
theorem dX8_irons_64 : decode cX8_irons 64 = .ok (.iconst 2, 1) := by decide +kernel
theorem dX8_irons_65 : decode cX8_irons 65 = .ok (.iadd, 1) := by decide +kernel
theorem dX8_irons_66 : decode cX8_irons 66 = .ok (.iaload, 1) := by decide +kernel
theorem dX8_irons_67 : decode cX8_irons 67 = .ok (.iload 4, 2) := by decide +kernel
theorem dX8_irons_69 : decode cX8_irons 69 = .ok (.ishr, 1) := by decide +kernel
theorem dX8_irons_70 : decode cX8_irons 70 = .ok (.iconst 1, 1) := by decide +kernel
theorem dX8_irons_71 : decode cX8_irons 71 = .ok (.iand, 1) := by decide +kernel
theorem dX8_irons_72 : decode cX8_irons 72 = .ok (.iconst 1, 1) := by decide +kernel
theorem dX8_irons_73 : decode cX8_irons 73 = .ok (.if_icmp .ne 30, 3) := by decide +kernel
theorem dX8_irons_76 : decode cX8_irons 76 = .ok (.aload_n 0, 1) := by decide +kernel
theorem dX8_irons_77 : decode cX8_irons 77 = .ok (.getfield 35, 3) := by decide +kernel
theorem dX8_irons_80 : decode cX8_irons 80 = .ok (.iload 4, 2) := by decide +kernel
theorem dX8_irons_82 : decode cX8_irons 82 = .ok (.aload_n 0, 1) := by decide +kernel
theorem dX8_irons_83 : decode cX8_irons 83 = .ok (.getfield 35, 3) := by decide +kernel
theorem dX8_irons_86 : decode cX8_irons 86 = .ok (.iload 4, 2) := by decide +kernel
theorem dX8_irons_88 : decode cX8_irons 88 = .ok (.iaload, 1) := by decide +kernel
theorem dX8_irons_89 : decode cX8_irons 89 = .ok (.aload_n 0, 1) := by decide +kernel
theorem dX8_irons_90 : decode cX8_irons 90 = .ok (.iload 4, 2) := by decide +kernel
theorem dX8_irons_92 : decode cX8_irons 92 = .ok (.invokevirtual 117, 3) := by decide +kernel
theorem dX8_irons_95 : decode cX8_irons 95 = .ok (.iadd, 1) := by decide +kernel
theorem dX8_irons_96 : decode cX8_irons 96 = .ok (.iconst 0, 1) := by decide +kernel
theorem dX8_irons_97 : decode cX8_irons 97 = .ok (.bipush 99, 2) := by decide +kernel
theorem dX8_irons_99 : decode cX8_irons 99 = .ok (.invokestatic 245, 3) := by decide +kernel
theorem dX8_irons_102 : decode cX8_irons 102 = .ok (.iastore, 1) := by decide +kernel
theorem dX8_irons_103 : decode cX8_irons 103 = .ok (.iinc 4 1, 3) := by decide +kernel
end
section
theorem dX8_irons_106 : decode cX8_irons 106 = .ok (.goto (-64), 3) := by decide +kernel
theorem dX8_irons_109 : decode cX8_irons 109 = .ok (.return_, 1) := by decide +kernel
theorem dX8_creased_0 : decode cX8_creased 0 = .ok (.iconst 0, 1) := by decide +kernel
theorem dX8_creased_1 : decode cX8_creased 1 = .ok (.istore_n 1, 1) := by decide +kernel
theorem dX8_creased_2 : decode cX8_creased 2 = .ok (.iconst 0, 1) := by decide +kernel
theorem dX8_creased_3 : decode cX8_creased 3 = .ok (.istore_n 2, 1) := by decide +kernel
theorem dX8_creased_4 : decode cX8_creased 4 = .ok (.iload_n 2, 1) := by decide +kernel
theorem dX8_creased_5 : decode cX8_creased 5 = .ok (.aload_n 0, 1) := by decide +kernel
theorem dX8_creased_6 : decode cX8_creased 6 = .ok (.getfield 73, 3) := by decide +kernel
theorem dX8_creased_9 : decode cX8_creased 9 = .ok (.if_icmp .ge 24, 3) := by decide +kernel
theorem dX8_creased_12 : decode cX8_creased 12 = .ok (.iload_n 1, 1) := by decide +kernel
theorem dX8_creased_13 : decode cX8_creased 13 = .ok (.aload_n 0, 1) := by decide +kernel
theorem dX8_creased_14 : decode cX8_creased 14 = .ok (.getfield 35, 3) := by decide +kernel
theorem dX8_creased_17 : decode cX8_creased 17 = .ok (.iload_n 2, 1) := by decide +kernel
theorem dX8_creased_18 : decode cX8_creased 18 = .ok (.iaload, 1) := by decide +kernel
theorem dX8_creased_19 : decode cX8_creased 19 = .ok (.aload_n 0, 1) := by decide +kernel
theorem dX8_creased_20 : decode cX8_creased 20 = .ok (.iload_n 2, 1) := by decide +kernel
theorem dX8_creased_21 : decode cX8_creased 21 = .ok (.invokevirtual 105, 3) := by decide +kernel
theorem dX8_creased_24 : decode cX8_creased 24 = .ok (.imul, 1) := by decide +kernel
theorem dX8_creased_25 : decode cX8_creased 25 = .ok (.iadd, 1) := by decide +kernel
theorem dX8_creased_26 : decode cX8_creased 26 = .ok (.istore_n 1, 1) := by decide +kernel
theorem dX8_creased_27 : decode cX8_creased 27 = .ok (.iinc 2 1, 3) := by decide +kernel
theorem dX8_creased_30 : decode cX8_creased 30 = .ok (.goto (-26), 3) := by decide +kernel
theorem dX8_creased_33 : decode cX8_creased 33 = .ok (.iload_n 1, 1) := by decide +kernel
theorem dX8_creased_34 : decode cX8_creased 34 = .ok (.ireturn, 1) := by decide +kernel
theorem dX8_iron_0 : decode cX8_iron 0 = .ok (.aload_n 0, 1) := by decide +kernel
theorem dX8_iron_1 : decode cX8_iron 1 = .ok (.iload_n 1, 1) := by decide +kernel
theorem dX8_iron_2 : decode cX8_iron 2 = .ok (.invokevirtual 82, 3) := by decide +kernel
theorem dX8_iron_5 : decode cX8_iron 5 = .ok (.ifCond .ne 6, 3) := by decide +kernel
theorem dX8_iron_8 : decode cX8_iron 8 = .ok (.bipush (-2), 2) := by decide +kernel
theorem dX8_iron_10 : decode cX8_iron 10 = .ok (.ireturn, 1) := by decide +kernel
theorem dX8_iron_11 : decode cX8_iron 11 = .ok (.aload_n 0, 1) := by decide +kernel
theorem dX8_iron_12 : decode cX8_iron 12 = .ok (.invokevirtual 108, 3) := by decide +kernel
theorem dX8_iron_15 : decode cX8_iron 15 = .ok (.aload_n 0, 1) := by decide +kernel
theorem dX8_iron_16 : decode cX8_iron 16 = .ok (.iload_n 1, 1) := by decide +kernel
theorem dX8_iron_17 : decode cX8_iron 17 = .ok (.invokevirtual 252, 3) := by decide +kernel
theorem dX8_iron_20 : decode cX8_iron 20 = .ok (.iconst 0, 1) := by decide +kernel
theorem dX8_iron_21 : decode cX8_iron 21 = .ok (.istore_n 2, 1) := by decide +kernel
theorem dX8_iron_22 : decode cX8_iron 22 = .ok (.iload_n 2, 1) := by decide +kernel
theorem dX8_iron_23 : decode cX8_iron 23 = .ok (.aload_n 0, 1) := by decide +kernel
theorem dX8_iron_24 : decode cX8_iron 24 = .ok (.getfield 73, 3) := by decide +kernel
theorem dX8_iron_27 : decode cX8_iron 27 = .ok (.if_icmp .ge 25, 3) := by decide +kernel
theorem dX8_iron_30 : decode cX8_iron 30 = .ok (.aload_n 0, 1) := by decide +kernel
theorem dX8_iron_31 : decode cX8_iron 31 = .ok (.getfield 32, 3) := by decide +kernel
theorem dX8_iron_34 : decode cX8_iron 34 = .ok (.iconst 3, 1) := by decide +kernel
theorem dX8_iron_35 : decode cX8_iron 35 = .ok (.iload_n 2, 1) := by decide +kernel
theorem dX8_iron_36 : decode cX8_iron 36 = .ok (.imul, 1) := by decide +kernel
theorem dX8_iron_37 : decode cX8_iron 37 = .ok (.iconst 1, 1) := by decide +kernel
theorem dX8_iron_38 : decode cX8_iron 38 = .ok (.iadd, 1) := by decide +kernel
theorem dX8_iron_39 : decode cX8_iron 39 = .ok (.aload_n 0, 1) := by decide +kernel
theorem dX8_iron_40 : decode cX8_iron 40 = .ok (.getfield 35, 3) := by decide +kernel
theorem dX8_iron_43 : decode cX8_iron 43 = .ok (.iload_n 2, 1) := by decide +kernel
theorem dX8_iron_44 : decode cX8_iron 44 = .ok (.iaload, 1) := by decide +kernel
theorem dX8_iron_45 : decode cX8_iron 45 = .ok (.iastore, 1) := by decide +kernel
theorem dX8_iron_46 : decode cX8_iron 46 = .ok (.iinc 2 1, 3) := by decide +kernel
theorem dX8_iron_49 : decode cX8_iron 49 = .ok (.goto (-27), 3) := by decide +kernel
theorem dX8_iron_52 : decode cX8_iron 52 = .ok (.aload_n 0, 1) := by decide +kernel
theorem dX8_iron_53 : decode cX8_iron 53 = .ok (.getfield 35, 3) := by decide +kernel
theorem dX8_iron_56 : decode cX8_iron 56 = .ok (.iload_n 1, 1) := by decide +kernel
theorem dX8_iron_57 : decode cX8_iron 57 = .ok (.iaload, 1) := by decide +kernel
theorem dX8_iron_58 : decode cX8_iron 58 = .ok (.ireturn, 1) := by decide +kernel
theorem dX8_plainBut_0 : decode cX8_plainBut 0 = .ok (.aload_n 0, 1) := by decide +kernel
theorem dX8_plainBut_1 : decode cX8_plainBut 1 = .ok (.invokevirtual 108, 3) := by decide +kernel
theorem dX8_plainBut_4 : decode cX8_plainBut 4 = .ok (.iconst 0, 1) := by decide +kernel
theorem dX8_plainBut_5 : decode cX8_plainBut 5 = .ok (.istore_n 2, 1) := by decide +kernel
theorem dX8_plainBut_6 : decode cX8_plainBut 6 = .ok (.iload_n 2, 1) := by decide +kernel
theorem dX8_plainBut_7 : decode cX8_plainBut 7 = .ok (.aload_n 0, 1) := by decide +kernel
theorem dX8_plainBut_8 : decode cX8_plainBut 8 = .ok (.getfield 73, 3) := by decide +kernel
theorem dX8_plainBut_11 : decode cX8_plainBut 11 = .ok (.if_icmp .ge 19, 3) := by decide +kernel
theorem dX8_plainBut_14 : decode cX8_plainBut 14 = .ok (.iload_n 2, 1) := by decide +kernel
theorem dX8_plainBut_15 : decode cX8_plainBut 15 = .ok (.iload_n 1, 1) := by decide +kernel
theorem dX8_plainBut_16 : decode cX8_plainBut 16 = .ok (.if_icmp .eq 8, 3) := by decide +kernel
theorem dX8_plainBut_19 : decode cX8_plainBut 19 = .ok (.aload_n 0, 1) := by decide +kernel
theorem dX8_plainBut_20 : decode cX8_plainBut 20 = .ok (.iload_n 2, 1) := by decide +kernel
theorem dX8_plainBut_21 : decode cX8_plainBut 21 = .ok (.invokevirtual 252, 3) := by decide +kernel
theorem dX8_plainBut_24 : decode cX8_plainBut 24 = .ok (.iinc 2 1, 3) := by decide +kernel
theorem dX8_plainBut_27 : decode cX8_plainBut 27 = .ok (.goto (-21), 3) := by decide +kernel
theorem dX8_plainBut_30 : decode cX8_plainBut 30 = .ok (.aload_n 0, 1) := by decide +kernel
theorem dX8_plainBut_31 : decode cX8_plainBut 31 = .ok (.invokevirtual 256, 3) := by decide +kernel
theorem dX8_plainBut_34 : decode cX8_plainBut 34 = .ok (.ireturn, 1) := by decide +kernel
theorem dX8_isTold_0 : decode cX8_isTold 0 = .ok (.iload_n 1, 1) := by decide +kernel
theorem dX8_isTold_1 : decode cX8_isTold 1 = .ok (.i2l, 1) := by decide +kernel
theorem dX8_isTold_2 : decode cX8_isTold 2 = .ok (.lconst 0, 1) := by decide +kernel
theorem dX8_isTold_3 : decode cX8_isTold 3 = .ok (.lconst 1, 1) := by decide +kernel
theorem dX8_isTold_4 : decode cX8_isTold 4 = .ok (.invokestatic 76, 3) := by decide +kernel
theorem dX8_isTold_7 : decode cX8_isTold 7 = .ok (.ifCond .ne 28, 3) := by decide +kernel
theorem dX8_isTold_10 : decode cX8_isTold 10 = .ok (.iload_n 1, 1) := by decide +kernel
theorem dX8_isTold_11 : decode cX8_isTold 11 = .ok (.i2l, 1) := by decide +kernel
theorem dX8_isTold_12 : decode cX8_isTold 12 = .ok (.ldc2_w 155, 3) := by decide +kernel
theorem dX8_isTold_15 : decode cX8_isTold 15 = .ok (.ldc2_w 259, 3) := by decide +kernel
theorem dX8_isTold_18 : decode cX8_isTold 18 = .ok (.invokestatic 76, 3) := by decide +kernel
theorem dX8_isTold_21 : decode cX8_isTold 21 = .ok (.ifCond .eq 18, 3) := by decide +kernel
theorem dX8_isTold_24 : decode cX8_isTold 24 = .ok (.aload_n 0, 1) := by decide +kernel
theorem dX8_isTold_25 : decode cX8_isTold 25 = .ok (.iload_n 1, 1) := by decide +kernel
theorem dX8_isTold_26 : decode cX8_isTold 26 = .ok (.bipush 10, 2) := by decide +kernel
theorem dX8_isTold_28 : decode cX8_isTold 28 = .ok (.irem, 1) := by decide +kernel
theorem dX8_isTold_29 : decode cX8_isTold 29 = .ok (.invokevirtual 82, 3) := by decide +kernel
theorem dX8_isTold_32 : decode cX8_isTold 32 = .ok (.ifCond .eq 7, 3) := by decide +kernel
theorem dX8_isTold_35 : decode cX8_isTold 35 = .ok (.iconst 1, 1) := by decide +kernel
theorem dX8_isTold_36 : decode cX8_isTold 36 = .ok (.goto 4, 3) := by decide +kernel
theorem dX8_isTold_39 : decode cX8_isTold 39 = .ok (.iconst 0, 1) := by decide +kernel
theorem dX8_isTold_40 : decode cX8_isTold 40 = .ok (.ireturn, 1) := by decide +kernel
theorem dX8_tellsOf_0 : decode cX8_tellsOf 0 = .ok (.iload_n 1, 1) := by decide +kernel
theorem dX8_tellsOf_1 : decode cX8_tellsOf 1 = .ok (.ifCond .ne 10, 3) := by decide +kernel
theorem dX8_tellsOf_4 : decode cX8_tellsOf 4 = .ok (.aload_n 0, 1) := by decide +kernel
theorem dX8_tellsOf_5 : decode cX8_tellsOf 5 = .ok (.invokevirtual 256, 3) := by decide +kernel
theorem dX8_tellsOf_8 : decode cX8_tellsOf 8 = .ok (.goto 42, 3) := by decide +kernel
theorem dX8_tellsOf_11 : decode cX8_tellsOf 11 = .ok (.iload_n 1, 1) := by decide +kernel
theorem dX8_tellsOf_12 : decode cX8_tellsOf 12 = .ok (.iconst 1, 1) := by decide +kernel
theorem dX8_tellsOf_13 : decode cX8_tellsOf 13 = .ok (.if_icmp .ne 10, 3) := by decide +kernel
theorem dX8_tellsOf_16 : decode cX8_tellsOf 16 = .ok (.aload_n 0, 1) := by decide +kernel
theorem dX8_tellsOf_17 : decode cX8_tellsOf 17 = .ok (.getfield 239, 3) := by decide +kernel
theorem dX8_tellsOf_20 : decode cX8_tellsOf 20 = .ok (.goto 30, 3) := by decide +kernel
theorem dX8_tellsOf_23 : decode cX8_tellsOf 23 = .ok (.iload_n 1, 1) := by decide +kernel
theorem dX8_tellsOf_24 : decode cX8_tellsOf 24 = .ok (.bipush 20, 2) := by decide +kernel
theorem dX8_tellsOf_26 : decode cX8_tellsOf 26 = .ok (.if_icmp .ge 15, 3) := by decide +kernel
theorem dX8_tellsOf_29 : decode cX8_tellsOf 29 = .ok (.aload_n 0, 1) := by decide +kernel
theorem dX8_tellsOf_30 : decode cX8_tellsOf 30 = .ok (.getfield 35, 3) := by decide +kernel
theorem dX8_tellsOf_33 : decode cX8_tellsOf 33 = .ok (.iload_n 1, 1) := by decide +kernel
theorem dX8_tellsOf_34 : decode cX8_tellsOf 34 = .ok (.bipush 10, 2) := by decide +kernel
theorem dX8_tellsOf_36 : decode cX8_tellsOf 36 = .ok (.isub, 1) := by decide +kernel
theorem dX8_tellsOf_37 : decode cX8_tellsOf 37 = .ok (.iaload, 1) := by decide +kernel
theorem dX8_tellsOf_38 : decode cX8_tellsOf 38 = .ok (.goto 12, 3) := by decide +kernel
theorem dX8_tellsOf_41 : decode cX8_tellsOf 41 = .ok (.aload_n 0, 1) := by decide +kernel
theorem dX8_tellsOf_42 : decode cX8_tellsOf 42 = .ok (.getfield 38, 3) := by decide +kernel
theorem dX8_tellsOf_45 : decode cX8_tellsOf 45 = .ok (.iload_n 1, 1) := by decide +kernel
theorem dX8_tellsOf_46 : decode cX8_tellsOf 46 = .ok (.bipush 20, 2) := by decide +kernel
theorem dX8_tellsOf_48 : decode cX8_tellsOf 48 = .ok (.isub, 1) := by decide +kernel
theorem dX8_tellsOf_49 : decode cX8_tellsOf 49 = .ok (.iaload, 1) := by decide +kernel
theorem dX8_tellsOf_50 : decode cX8_tellsOf 50 = .ok (.ireturn, 1) := by decide +kernel
theorem dX8_plain_0 : decode cX8_plain 0 = .ok (.aload_n 0, 1) := by decide +kernel
theorem dX8_plain_1 : decode cX8_plain 1 = .ok (.iload_n 1, 1) := by decide +kernel
theorem dX8_plain_2 : decode cX8_plain 2 = .ok (.invokevirtual 261, 3) := by decide +kernel
theorem dX8_plain_5 : decode cX8_plain 5 = .ok (.ifCond .ne 6, 3) := by decide +kernel
theorem dX8_plain_8 : decode cX8_plain 8 = .ok (.bipush (-2), 2) := by decide +kernel
theorem dX8_plain_10 : decode cX8_plain 10 = .ok (.ireturn, 1) := by decide +kernel
theorem dX8_plain_11 : decode cX8_plain 11 = .ok (.aload_n 0, 1) := by decide +kernel
theorem dX8_plain_12 : decode cX8_plain 12 = .ok (.iconst (-1), 1) := by decide +kernel
theorem dX8_plain_13 : decode cX8_plain 13 = .ok (.invokevirtual 264, 3) := by decide +kernel
theorem dX8_plain_16 : decode cX8_plain 16 = .ok (.pop, 1) := by decide +kernel
theorem dX8_plain_17 : decode cX8_plain 17 = .ok (.aload_n 0, 1) := by decide +kernel
theorem dX8_plain_18 : decode cX8_plain 18 = .ok (.iload_n 1, 1) := by decide +kernel
theorem dX8_plain_19 : decode cX8_plain 19 = .ok (.invokevirtual 267, 3) := by decide +kernel
theorem dX8_plain_22 : decode cX8_plain 22 = .ok (.ireturn, 1) := by decide +kernel
theorem dX8_isOrder_0 : decode cX8_isOrder 0 = .ok (.iconst 0, 1) := by decide +kernel
theorem dX8_isOrder_1 : decode cX8_isOrder 1 = .ok (.istore_n 2, 1) := by decide +kernel
theorem dX8_isOrder_2 : decode cX8_isOrder 2 = .ok (.iconst 0, 1) := by decide +kernel
theorem dX8_isOrder_3 : decode cX8_isOrder 3 = .ok (.istore_n 3, 1) := by decide +kernel
theorem dX8_isOrder_4 : decode cX8_isOrder 4 = .ok (.iload_n 3, 1) := by decide +kernel
theorem dX8_isOrder_5 : decode cX8_isOrder 5 = .ok (.aload_n 0, 1) := by decide +kernel
theorem dX8_isOrder_6 : decode cX8_isOrder 6 = .ok (.getfield 60, 3) := by decide +kernel
theorem dX8_isOrder_9 : decode cX8_isOrder 9 = .ok (.iload_n 1, 1) := by decide +kernel
theorem dX8_isOrder_10 : decode cX8_isOrder 10 = .ok (.iaload, 1) := by decide +kernel
theorem dX8_isOrder_11 : decode cX8_isOrder 11 = .ok (.if_icmp .ge 50, 3) := by decide +kernel
theorem dX8_isOrder_14 : decode cX8_isOrder 14 = .ok (.aload_n 0, 1) := by decide +kernel
theorem dX8_isOrder_15 : decode cX8_isOrder 15 = .ok (.getfield 63, 3) := by decide +kernel
theorem dX8_isOrder_18 : decode cX8_isOrder 18 = .ok (.bipush 40, 2) := by decide +kernel
theorem dX8_isOrder_20 : decode cX8_isOrder 20 = .ok (.iload_n 1, 1) := by decide +kernel
theorem dX8_isOrder_21 : decode cX8_isOrder 21 = .ok (.imul, 1) := by decide +kernel
theorem dX8_isOrder_22 : decode cX8_isOrder 22 = .ok (.iload_n 3, 1) := by decide +kernel
theorem dX8_isOrder_23 : decode cX8_isOrder 23 = .ok (.iadd, 1) := by decide +kernel
theorem dX8_isOrder_24 : decode cX8_isOrder 24 = .ok (.iaload, 1) := by decide +kernel
theorem dX8_isOrder_25 : decode cX8_isOrder 25 = .ok (.istore 4, 2) := by decide +kernel
theorem dX8_isOrder_27 : decode cX8_isOrder 27 = .ok (.aload_n 0, 1) := by decide +kernel
theorem dX8_isOrder_28 : decode cX8_isOrder 28 = .ok (.iload 4, 2) := by decide +kernel
theorem dX8_isOrder_30 : decode cX8_isOrder 30 = .ok (.invokevirtual 82, 3) := by decide +kernel
theorem dX8_isOrder_33 : decode cX8_isOrder 33 = .ok (.ifCond .eq 13, 3) := by decide +kernel
theorem dX8_isOrder_36 : decode cX8_isOrder 36 = .ok (.iload_n 2, 1) := by decide +kernel
theorem dX8_isOrder_37 : decode cX8_isOrder 37 = .ok (.iload 4, 2) := by decide +kernel
theorem dX8_isOrder_39 : decode cX8_isOrder 39 = .ok (.ishr, 1) := by decide +kernel
theorem dX8_isOrder_40 : decode cX8_isOrder 40 = .ok (.iconst 1, 1) := by decide +kernel
theorem dX8_isOrder_41 : decode cX8_isOrder 41 = .ok (.iand, 1) := by decide +kernel
theorem dX8_isOrder_42 : decode cX8_isOrder 42 = .ok (.iconst 1, 1) := by decide +kernel
theorem dX8_isOrder_43 : decode cX8_isOrder 43 = .ok (.if_icmp .ne 5, 3) := by decide +kernel
theorem dX8_isOrder_46 : decode cX8_isOrder 46 = .ok (.iconst 0, 1) := by decide +kernel
theorem dX8_isOrder_47 : decode cX8_isOrder 47 = .ok (.ireturn, 1) := by decide +kernel
theorem dX8_isOrder_48 : decode cX8_isOrder 48 = .ok (.iload_n 2, 1) := by decide +kernel
theorem dX8_isOrder_49 : decode cX8_isOrder 49 = .ok (.iconst 1, 1) := by decide +kernel
theorem dX8_isOrder_50 : decode cX8_isOrder 50 = .ok (.iload 4, 2) := by decide +kernel
theorem dX8_isOrder_52 : decode cX8_isOrder 52 = .ok (.ishl, 1) := by decide +kernel
theorem dX8_isOrder_53 : decode cX8_isOrder 53 = .ok (.ior, 1) := by decide +kernel
theorem dX8_isOrder_54 : decode cX8_isOrder 54 = .ok (.istore_n 2, 1) := by decide +kernel
theorem dX8_isOrder_55 : decode cX8_isOrder 55 = .ok (.iinc 3 1, 3) := by decide +kernel
theorem dX8_isOrder_58 : decode cX8_isOrder 58 = .ok (.goto (-54), 3) := by decide +kernel
theorem dX8_isOrder_61 : decode cX8_isOrder 61 = .ok (.iconst 1, 1) := by decide +kernel
theorem dX8_isOrder_62 : decode cX8_isOrder 62 = .ok (.ireturn, 1) := by decide +kernel
theorem dX8_order_0 : decode cX8_order 0 = .ok (.iload_n 1, 1) := by decide +kernel
theorem dX8_order_1 : decode cX8_order 1 = .ok (.invokestatic 270, 3) := by decide +kernel
theorem dX8_order_4 : decode cX8_order 4 = .ok (.ifCond .eq 11, 3) := by decide +kernel
theorem dX8_order_7 : decode cX8_order 7 = .ok (.aload_n 0, 1) := by decide +kernel
theorem dX8_order_8 : decode cX8_order 8 = .ok (.iload_n 2, 1) := by decide +kernel
theorem dX8_order_9 : decode cX8_order 9 = .ok (.invokevirtual 261, 3) := by decide +kernel
theorem dX8_order_12 : decode cX8_order 12 = .ok (.ifCond .ne 6, 3) := by decide +kernel
theorem dX8_order_15 : decode cX8_order 15 = .ok (.bipush (-2), 2) := by decide +kernel
theorem dX8_order_17 : decode cX8_order 17 = .ok (.ireturn, 1) := by decide +kernel
theorem dX8_order_18 : decode cX8_order 18 = .ok (.aload_n 0, 1) := by decide +kernel
theorem dX8_order_19 : decode cX8_order 19 = .ok (.getfield 53, 3) := by decide +kernel
theorem dX8_order_22 : decode cX8_order 22 = .ok (.iload_n 1, 1) := by decide +kernel
theorem dX8_order_23 : decode cX8_order 23 = .ok (.baload, 1) := by decide +kernel
theorem dX8_order_24 : decode cX8_order 24 = .ok (.ifCond .ne 6, 3) := by decide +kernel
theorem dX8_order_27 : decode cX8_order 27 = .ok (.bipush (-11), 2) := by decide +kernel
theorem dX8_order_29 : decode cX8_order 29 = .ok (.ireturn, 1) := by decide +kernel
theorem dX8_order_30 : decode cX8_order 30 = .ok (.aload_n 0, 1) := by decide +kernel
theorem dX8_order_31 : decode cX8_order 31 = .ok (.iload_n 1, 1) := by decide +kernel
theorem dX8_order_32 : decode cX8_order 32 = .ok (.invokevirtual 273, 3) := by decide +kernel
theorem dX8_order_35 : decode cX8_order 35 = .ok (.ifCond .ne 6, 3) := by decide +kernel
theorem dX8_order_38 : decode cX8_order 38 = .ok (.bipush (-2), 2) := by decide +kernel
theorem dX8_order_40 : decode cX8_order 40 = .ok (.ireturn, 1) := by decide +kernel
theorem dX8_order_41 : decode cX8_order 41 = .ok (.aload_n 0, 1) := by decide +kernel
theorem dX8_order_42 : decode cX8_order 42 = .ok (.invokevirtual 108, 3) := by decide +kernel
theorem dX8_order_45 : decode cX8_order 45 = .ok (.iconst 0, 1) := by decide +kernel
theorem dX8_order_46 : decode cX8_order 46 = .ok (.istore_n 3, 1) := by decide +kernel
theorem dX8_order_47 : decode cX8_order 47 = .ok (.iload_n 3, 1) := by decide +kernel
theorem dX8_order_48 : decode cX8_order 48 = .ok (.aload_n 0, 1) := by decide +kernel
theorem dX8_order_49 : decode cX8_order 49 = .ok (.getfield 60, 3) := by decide +kernel
theorem dX8_order_52 : decode cX8_order 52 = .ok (.iload_n 1, 1) := by decide +kernel
theorem dX8_order_53 : decode cX8_order 53 = .ok (.iaload, 1) := by decide +kernel
theorem dX8_order_54 : decode cX8_order 54 = .ok (.if_icmp .ge 24, 3) := by decide +kernel
theorem dX8_order_57 : decode cX8_order 57 = .ok (.aload_n 0, 1) := by decide +kernel
theorem dX8_order_58 : decode cX8_order 58 = .ok (.aload_n 0, 1) := by decide +kernel
theorem dX8_order_59 : decode cX8_order 59 = .ok (.getfield 63, 3) := by decide +kernel
theorem dX8_order_62 : decode cX8_order 62 = .ok (.bipush 40, 2) := by decide +kernel
theorem dX8_order_64 : decode cX8_order 64 = .ok (.iload_n 1, 1) := by decide +kernel
theorem dX8_order_65 : decode cX8_order 65 = .ok (.imul, 1) := by decide +kernel
theorem dX8_order_66 : decode cX8_order 66 = .ok (.iload_n 3, 1) := by decide +kernel
theorem dX8_order_67 : decode cX8_order 67 = .ok (.iadd, 1) := by decide +kernel
theorem dX8_order_68 : decode cX8_order 68 = .ok (.iaload, 1) := by decide +kernel
theorem dX8_order_69 : decode cX8_order 69 = .ok (.invokevirtual 252, 3) := by decide +kernel
theorem dX8_order_72 : decode cX8_order 72 = .ok (.iinc 3 1, 3) := by decide +kernel
theorem dX8_order_75 : decode cX8_order 75 = .ok (.goto (-28), 3) := by decide +kernel
theorem dX8_order_78 : decode cX8_order 78 = .ok (.aload_n 0, 1) := by decide +kernel
theorem dX8_order_79 : decode cX8_order 79 = .ok (.iload_n 2, 1) := by decide +kernel
theorem dX8_order_80 : decode cX8_order 80 = .ok (.invokevirtual 267, 3) := by decide +kernel
theorem dX8_order_83 : decode cX8_order 83 = .ok (.ireturn, 1) := by decide +kernel
theorem dX8_seeks_0 : decode cX8_seeks 0 = .ok (.iload_n 1, 1) := by decide +kernel
theorem dX8_seeks_1 : decode cX8_seeks 1 = .ok (.aload_n 0, 1) := by decide +kernel
theorem dX8_seeks_2 : decode cX8_seeks 2 = .ok (.getfield 73, 3) := by decide +kernel
theorem dX8_seeks_5 : decode cX8_seeks 5 = .ok (.if_icmp .ne 42, 3) := by decide +kernel
theorem dX8_seeks_8 : decode cX8_seeks 8 = .ok (.aload_n 0, 1) := by decide +kernel
theorem dX8_seeks_9 : decode cX8_seeks 9 = .ok (.invokevirtual 256, 3) := by decide +kernel
theorem dX8_seeks_12 : decode cX8_seeks 12 = .ok (.istore 4, 2) := by decide +kernel
theorem dX8_seeks_14 : decode cX8_seeks 14 = .ok (.aload_n 0, 1) := by decide +kernel
theorem dX8_seeks_15 : decode cX8_seeks 15 = .ok (.getfield 276, 3) := by decide +kernel
theorem dX8_seeks_18 : decode cX8_seeks 18 = .ok (.ifCond .eq 12, 3) := by decide +kernel
theorem dX8_seeks_21 : decode cX8_seeks 21 = .ok (.iload 4, 2) := by decide +kernel
theorem dX8_seeks_23 : decode cX8_seeks 23 = .ok (.aload_n 0, 1) := by decide +kernel
theorem dX8_seeks_24 : decode cX8_seeks 24 = .ok (.getfield 279, 3) := by decide +kernel
theorem dX8_seeks_27 : decode cX8_seeks 27 = .ok (.if_icmp .ge 19, 3) := by decide +kernel
theorem dX8_seeks_30 : decode cX8_seeks 30 = .ok (.aload_n 0, 1) := by decide +kernel
theorem dX8_seeks_31 : decode cX8_seeks 31 = .ok (.iconst 1, 1) := by decide +kernel
theorem dX8_seeks_32 : decode cX8_seeks 32 = .ok (.putfield 276, 3) := by decide +kernel
theorem dX8_seeks_35 : decode cX8_seeks 35 = .ok (.aload_n 0, 1) := by decide +kernel
theorem dX8_seeks_36 : decode cX8_seeks 36 = .ok (.iload 4, 2) := by decide +kernel
theorem dX8_seeks_38 : decode cX8_seeks 38 = .ok (.putfield 279, 3) := by decide +kernel
theorem dX8_seeks_41 : decode cX8_seeks 41 = .ok (.aload_n 0, 1) := by decide +kernel
theorem dX8_seeks_42 : decode cX8_seeks 42 = .ok (.iload_n 3, 1) := by decide +kernel
theorem dX8_seeks_43 : decode cX8_seeks 43 = .ok (.putfield 282, 3) := by decide +kernel
theorem dX8_seeks_46 : decode cX8_seeks 46 = .ok (.return_, 1) := by decide +kernel
theorem dX8_seeks_47 : decode cX8_seeks 47 = .ok (.iconst 0, 1) := by decide +kernel
theorem dX8_seeks_48 : decode cX8_seeks 48 = .ok (.istore 4, 2) := by decide +kernel
theorem dX8_seeks_50 : decode cX8_seeks 50 = .ok (.iload 4, 2) := by decide +kernel
theorem dX8_seeks_52 : decode cX8_seeks 52 = .ok (.aload_n 0, 1) := by decide +kernel
theorem dX8_seeks_53 : decode cX8_seeks 53 = .ok (.getfield 73, 3) := by decide +kernel
theorem dX8_seeks_56 : decode cX8_seeks 56 = .ok (.if_icmp .ge 28, 3) := by decide +kernel
theorem dX8_seeks_59 : decode cX8_seeks 59 = .ok (.aload_n 0, 1) := by decide +kernel
theorem dX8_seeks_60 : decode cX8_seeks 60 = .ok (.getfield 41, 3) := by decide +kernel
theorem dX8_seeks_63 : decode cX8_seeks 63 = .ok (.bipush 8, 2) := by decide +kernel
theorem dX8_seeks_65 : decode cX8_seeks 65 = .ok (.iload_n 1, 1) := by decide +kernel
theorem dX8_seeks_66 : decode cX8_seeks 66 = .ok (.imul, 1) := by decide +kernel
theorem dX8_seeks_67 : decode cX8_seeks 67 = .ok (.iload 4, 2) := by decide +kernel
theorem dX8_seeks_69 : decode cX8_seeks 69 = .ok (.iadd, 1) := by decide +kernel
theorem dX8_seeks_70 : decode cX8_seeks 70 = .ok (.aload_n 0, 1) := by decide +kernel
theorem dX8_seeks_71 : decode cX8_seeks 71 = .ok (.getfield 35, 3) := by decide +kernel
theorem dX8_seeks_74 : decode cX8_seeks 74 = .ok (.iload 4, 2) := by decide +kernel
theorem dX8_seeks_76 : decode cX8_seeks 76 = .ok (.iaload, 1) := by decide +kernel
theorem dX8_seeks_77 : decode cX8_seeks 77 = .ok (.iastore, 1) := by decide +kernel
theorem dX8_seeks_78 : decode cX8_seeks 78 = .ok (.iinc 4 1, 3) := by decide +kernel
theorem dX8_seeks_81 : decode cX8_seeks 81 = .ok (.goto (-31), 3) := by decide +kernel
theorem dX8_seeks_84 : decode cX8_seeks 84 = .ok (.aload_n 0, 1) := by decide +kernel
theorem dX8_seeks_85 : decode cX8_seeks 85 = .ok (.getfield 41, 3) := by decide +kernel
theorem dX8_seeks_88 : decode cX8_seeks 88 = .ok (.bipush 8, 2) := by decide +kernel
theorem dX8_seeks_90 : decode cX8_seeks 90 = .ok (.iload_n 1, 1) := by decide +kernel
theorem dX8_seeks_91 : decode cX8_seeks 91 = .ok (.imul, 1) := by decide +kernel
theorem dX8_seeks_92 : decode cX8_seeks 92 = .ok (.bipush 7, 2) := by decide +kernel
theorem dX8_seeks_94 : decode cX8_seeks 94 = .ok (.iadd, 1) := by decide +kernel
theorem dX8_seeks_95 : decode cX8_seeks 95 = .ok (.aload_n 0, 1) := by decide +kernel
theorem dX8_seeks_96 : decode cX8_seeks 96 = .ok (.getfield 239, 3) := by decide +kernel
theorem dX8_seeks_99 : decode cX8_seeks 99 = .ok (.iastore, 1) := by decide +kernel
theorem dX8_seeks_100 : decode cX8_seeks 100 = .ok (.iconst 0, 1) := by decide +kernel
theorem dX8_seeks_101 : decode cX8_seeks 101 = .ok (.istore 4, 2) := by decide +kernel
theorem dX8_seeks_103 : decode cX8_seeks 103 = .ok (.iload 4, 2) := by decide +kernel
theorem dX8_seeks_105 : decode cX8_seeks 105 = .ok (.aload_n 0, 1) := by decide +kernel
theorem dX8_seeks_106 : decode cX8_seeks 106 = .ok (.getfield 73, 3) := by decide +kernel
theorem dX8_seeks_109 : decode cX8_seeks 109 = .ok (.if_icmp .ge 99, 3) := by decide +kernel
theorem dX8_seeks_112 : decode cX8_seeks 112 = .ok (.iload_n 2, 1) := by decide +kernel
theorem dX8_seeks_113 : decode cX8_seeks 113 = .ok (.iload 4, 2) := by decide +kernel
theorem dX8_seeks_115 : decode cX8_seeks 115 = .ok (.ishr, 1) := by decide +kernel
theorem dX8_seeks_116 : decode cX8_seeks 116 = .ok (.iconst 1, 1) := by decide +kernel
theorem dX8_seeks_117 : decode cX8_seeks 117 = .ok (.iand, 1) := by decide +kernel
theorem dX8_seeks_118 : decode cX8_seeks 118 = .ok (.ifCond .ne 84, 3) := by decide +kernel
theorem dX8_seeks_121 : decode cX8_seeks 121 = .ok (.aload_n 0, 1) := by decide +kernel
theorem dX8_seeks_122 : decode cX8_seeks 122 = .ok (.iload 4, 2) := by decide +kernel
theorem dX8_seeks_124 : decode cX8_seeks 124 = .ok (.invokevirtual 252, 3) := by decide +kernel
theorem dX8_seeks_127 : decode cX8_seeks 127 = .ok (.aload_n 0, 1) := by decide +kernel
theorem dX8_seeks_128 : decode cX8_seeks 128 = .ok (.iload_n 1, 1) := by decide +kernel
theorem dX8_seeks_129 : decode cX8_seeks 129 = .ok (.iconst 1, 1) := by decide +kernel
theorem dX8_seeks_130 : decode cX8_seeks 130 = .ok (.iadd, 1) := by decide +kernel
theorem dX8_seeks_131 : decode cX8_seeks 131 = .ok (.iload_n 2, 1) := by decide +kernel
theorem dX8_seeks_132 : decode cX8_seeks 132 = .ok (.iconst 1, 1) := by decide +kernel
theorem dX8_seeks_133 : decode cX8_seeks 133 = .ok (.iload 4, 2) := by decide +kernel
theorem dX8_seeks_135 : decode cX8_seeks 135 = .ok (.ishl, 1) := by decide +kernel
theorem dX8_seeks_136 : decode cX8_seeks 136 = .ok (.ior, 1) := by decide +kernel
theorem dX8_seeks_137 : decode cX8_seeks 137 = .ok (.bipush 10, 2) := by decide +kernel
theorem dX8_seeks_139 : decode cX8_seeks 139 = .ok (.iload_n 3, 1) := by decide +kernel
theorem dX8_seeks_140 : decode cX8_seeks 140 = .ok (.imul, 1) := by decide +kernel
theorem dX8_seeks_141 : decode cX8_seeks 141 = .ok (.iload 4, 2) := by decide +kernel
theorem dX8_seeks_143 : decode cX8_seeks 143 = .ok (.iadd, 1) := by decide +kernel
theorem dX8_seeks_144 : decode cX8_seeks 144 = .ok (.iconst 1, 1) := by decide +kernel
theorem dX8_seeks_145 : decode cX8_seeks 145 = .ok (.iadd, 1) := by decide +kernel
theorem dX8_seeks_146 : decode cX8_seeks 146 = .ok (.invokevirtual 285, 3) := by decide +kernel
theorem dX8_seeks_149 : decode cX8_seeks 149 = .ok (.iconst 0, 1) := by decide +kernel
theorem dX8_seeks_150 : decode cX8_seeks 150 = .ok (.istore 5, 2) := by decide +kernel
theorem dX8_seeks_152 : decode cX8_seeks 152 = .ok (.iload 5, 2) := by decide +kernel
theorem dX8_seeks_154 : decode cX8_seeks 154 = .ok (.aload_n 0, 1) := by decide +kernel
theorem dX8_seeks_155 : decode cX8_seeks 155 = .ok (.getfield 73, 3) := by decide +kernel
theorem dX8_seeks_158 : decode cX8_seeks 158 = .ok (.if_icmp .ge 28, 3) := by decide +kernel
theorem dX8_seeks_161 : decode cX8_seeks 161 = .ok (.aload_n 0, 1) := by decide +kernel
theorem dX8_seeks_162 : decode cX8_seeks 162 = .ok (.getfield 35, 3) := by decide +kernel
theorem dX8_seeks_165 : decode cX8_seeks 165 = .ok (.iload 5, 2) := by decide +kernel
theorem dX8_seeks_167 : decode cX8_seeks 167 = .ok (.aload_n 0, 1) := by decide +kernel
theorem dX8_seeks_168 : decode cX8_seeks 168 = .ok (.getfield 41, 3) := by decide +kernel
theorem dX8_seeks_171 : decode cX8_seeks 171 = .ok (.bipush 8, 2) := by decide +kernel
theorem dX8_seeks_173 : decode cX8_seeks 173 = .ok (.iload_n 1, 1) := by decide +kernel
theorem dX8_seeks_174 : decode cX8_seeks 174 = .ok (.imul, 1) := by decide +kernel
theorem dX8_seeks_175 : decode cX8_seeks 175 = .ok (.iload 5, 2) := by decide +kernel
theorem dX8_seeks_177 : decode cX8_seeks 177 = .ok (.iadd, 1) := by decide +kernel
theorem dX8_seeks_178 : decode cX8_seeks 178 = .ok (.iaload, 1) := by decide +kernel
theorem dX8_seeks_179 : decode cX8_seeks 179 = .ok (.iastore, 1) := by decide +kernel
theorem dX8_seeks_180 : decode cX8_seeks 180 = .ok (.iinc 5 1, 3) := by decide +kernel
theorem dX8_seeks_183 : decode cX8_seeks 183 = .ok (.goto (-31), 3) := by decide +kernel
theorem dX8_seeks_186 : decode cX8_seeks 186 = .ok (.aload_n 0, 1) := by decide +kernel
theorem dX8_seeks_187 : decode cX8_seeks 187 = .ok (.aload_n 0, 1) := by decide +kernel
theorem dX8_seeks_188 : decode cX8_seeks 188 = .ok (.getfield 41, 3) := by decide +kernel
theorem dX8_seeks_191 : decode cX8_seeks 191 = .ok (.bipush 8, 2) := by decide +kernel
theorem dX8_seeks_193 : decode cX8_seeks 193 = .ok (.iload_n 1, 1) := by decide +kernel
theorem dX8_seeks_194 : decode cX8_seeks 194 = .ok (.imul, 1) := by decide +kernel
theorem dX8_seeks_195 : decode cX8_seeks 195 = .ok (.bipush 7, 2) := by decide +kernel
theorem dX8_seeks_197 : decode cX8_seeks 197 = .ok (.iadd, 1) := by decide +kernel
theorem dX8_seeks_198 : decode cX8_seeks 198 = .ok (.iaload, 1) := by decide +kernel
theorem dX8_seeks_199 : decode cX8_seeks 199 = .ok (.putfield 239, 3) := by decide +kernel
theorem dX8_seeks_202 : decode cX8_seeks 202 = .ok (.iinc 4 1, 3) := by decide +kernel
theorem dX8_seeks_205 : decode cX8_seeks 205 = .ok (.goto (-102), 3) := by decide +kernel
theorem dX8_seeks_208 : decode cX8_seeks 208 = .ok (.return_, 1) := by decide +kernel
theorem dX8_best_0 : decode cX8_best 0 = .ok (.iload_n 1, 1) := by decide +kernel
theorem dX8_best_1 : decode cX8_best 1 = .ok (.i2l, 1) := by decide +kernel
theorem dX8_best_2 : decode cX8_best 2 = .ok (.lconst 0, 1) := by decide +kernel
theorem dX8_best_3 : decode cX8_best 3 = .ok (.lconst 1, 1) := by decide +kernel
theorem dX8_best_4 : decode cX8_best 4 = .ok (.invokestatic 76, 3) := by decide +kernel
theorem dX8_best_7 : decode cX8_best 7 = .ok (.ifCond .ne 6, 3) := by decide +kernel
theorem dX8_best_10 : decode cX8_best 10 = .ok (.bipush (-2), 2) := by decide +kernel
theorem dX8_best_12 : decode cX8_best 12 = .ok (.ireturn, 1) := by decide +kernel
theorem dX8_best_13 : decode cX8_best 13 = .ok (.aload_n 0, 1) := by decide +kernel
theorem dX8_best_14 : decode cX8_best 14 = .ok (.invokevirtual 108, 3) := by decide +kernel
theorem dX8_best_17 : decode cX8_best 17 = .ok (.aload_n 0, 1) := by decide +kernel
theorem dX8_best_18 : decode cX8_best 18 = .ok (.iconst 0, 1) := by decide +kernel
theorem dX8_best_19 : decode cX8_best 19 = .ok (.putfield 276, 3) := by decide +kernel
theorem dX8_best_22 : decode cX8_best 22 = .ok (.aload_n 0, 1) := by decide +kernel
theorem dX8_best_23 : decode cX8_best 23 = .ok (.iconst 0, 1) := by decide +kernel
theorem dX8_best_24 : decode cX8_best 24 = .ok (.iconst 0, 1) := by decide +kernel
theorem dX8_best_25 : decode cX8_best 25 = .ok (.iconst 0, 1) := by decide +kernel
theorem dX8_best_26 : decode cX8_best 26 = .ok (.invokevirtual 285, 3) := by decide +kernel
theorem dX8_best_29 : decode cX8_best 29 = .ok (.iload_n 1, 1) := by decide +kernel
theorem dX8_best_30 : decode cX8_best 30 = .ok (.ifCond .ne 10, 3) := by decide +kernel
theorem dX8_best_33 : decode cX8_best 33 = .ok (.aload_n 0, 1) := by decide +kernel
theorem dX8_best_34 : decode cX8_best 34 = .ok (.getfield 279, 3) := by decide +kernel
theorem dX8_best_37 : decode cX8_best 37 = .ok (.goto 7, 3) := by decide +kernel
theorem dX8_best_40 : decode cX8_best 40 = .ok (.aload_n 0, 1) := by decide +kernel
theorem dX8_best_41 : decode cX8_best 41 = .ok (.getfield 282, 3) := by decide +kernel
theorem dX8_best_44 : decode cX8_best 44 = .ok (.ireturn, 1) := by decide +kernel
theorem dX8_worstFirst_0 : decode cX8_worstFirst 0 = .ok (.aload_n 0, 1) := by decide +kernel
theorem dX8_worstFirst_1 : decode cX8_worstFirst 1 = .ok (.invokevirtual 108, 3) := by decide +kernel
theorem dX8_worstFirst_4 : decode cX8_worstFirst 4 = .ok (.aload_n 0, 1) := by decide +kernel
theorem dX8_worstFirst_5 : decode cX8_worstFirst 5 = .ok (.iconst 0, 1) := by decide +kernel
theorem dX8_worstFirst_6 : decode cX8_worstFirst 6 = .ok (.putfield 288, 3) := by decide +kernel
theorem dX8_worstFirst_9 : decode cX8_worstFirst 9 = .ok (.iconst 0, 1) := by decide +kernel
theorem dX8_worstFirst_10 : decode cX8_worstFirst 10 = .ok (.istore_n 1, 1) := by decide +kernel
theorem dX8_worstFirst_11 : decode cX8_worstFirst 11 = .ok (.iconst 0, 1) := by decide +kernel
theorem dX8_worstFirst_12 : decode cX8_worstFirst 12 = .ok (.istore_n 2, 1) := by decide +kernel
theorem dX8_worstFirst_13 : decode cX8_worstFirst 13 = .ok (.iload_n 2, 1) := by decide +kernel
theorem dX8_worstFirst_14 : decode cX8_worstFirst 14 = .ok (.aload_n 0, 1) := by decide +kernel
theorem dX8_worstFirst_15 : decode cX8_worstFirst 15 = .ok (.getfield 73, 3) := by decide +kernel
theorem dX8_worstFirst_18 : decode cX8_worstFirst 18 = .ok (.if_icmp .ge 109, 3) := by decide +kernel
theorem dX8_worstFirst_21 : decode cX8_worstFirst 21 = .ok (.iconst (-1), 1) := by decide +kernel
theorem dX8_worstFirst_22 : decode cX8_worstFirst 22 = .ok (.istore_n 3, 1) := by decide +kernel
theorem dX8_worstFirst_23 : decode cX8_worstFirst 23 = .ok (.iconst 0, 1) := by decide +kernel
theorem dX8_worstFirst_24 : decode cX8_worstFirst 24 = .ok (.istore 4, 2) := by decide +kernel
theorem dX8_worstFirst_26 : decode cX8_worstFirst 26 = .ok (.iload 4, 2) := by decide +kernel
theorem dX8_worstFirst_28 : decode cX8_worstFirst 28 = .ok (.aload_n 0, 1) := by decide +kernel
theorem dX8_worstFirst_29 : decode cX8_worstFirst 29 = .ok (.getfield 73, 3) := by decide +kernel
theorem dX8_worstFirst_32 : decode cX8_worstFirst 32 = .ok (.if_icmp .ge 63, 3) := by decide +kernel
theorem dX8_worstFirst_35 : decode cX8_worstFirst 35 = .ok (.iload_n 1, 1) := by decide +kernel
theorem dX8_worstFirst_36 : decode cX8_worstFirst 36 = .ok (.iload 4, 2) := by decide +kernel
theorem dX8_worstFirst_38 : decode cX8_worstFirst 38 = .ok (.ishr, 1) := by decide +kernel
theorem dX8_worstFirst_39 : decode cX8_worstFirst 39 = .ok (.iconst 1, 1) := by decide +kernel
theorem dX8_worstFirst_40 : decode cX8_worstFirst 40 = .ok (.iand, 1) := by decide +kernel
theorem dX8_worstFirst_41 : decode cX8_worstFirst 41 = .ok (.ifCond .ne 48, 3) := by decide +kernel
theorem dX8_worstFirst_44 : decode cX8_worstFirst 44 = .ok (.iload_n 3, 1) := by decide +kernel
theorem dX8_worstFirst_45 : decode cX8_worstFirst 45 = .ok (.iconst (-1), 1) := by decide +kernel
theorem dX8_worstFirst_46 : decode cX8_worstFirst 46 = .ok (.if_icmp .eq 40, 3) := by decide +kernel
theorem dX8_worstFirst_49 : decode cX8_worstFirst 49 = .ok (.aload_n 0, 1) := by decide +kernel
theorem dX8_worstFirst_50 : decode cX8_worstFirst 50 = .ok (.getfield 32, 3) := by decide +kernel
theorem dX8_worstFirst_53 : decode cX8_worstFirst 53 = .ok (.iconst 3, 1) := by decide +kernel
theorem dX8_worstFirst_54 : decode cX8_worstFirst 54 = .ok (.iload 4, 2) := by decide +kernel
theorem dX8_worstFirst_56 : decode cX8_worstFirst 56 = .ok (.imul, 1) := by decide +kernel
theorem dX8_worstFirst_57 : decode cX8_worstFirst 57 = .ok (.iconst 1, 1) := by decide +kernel
theorem dX8_worstFirst_58 : decode cX8_worstFirst 58 = .ok (.iadd, 1) := by decide +kernel
theorem dX8_worstFirst_59 : decode cX8_worstFirst 59 = .ok (.iaload, 1) := by decide +kernel
theorem dX8_worstFirst_60 : decode cX8_worstFirst 60 = .ok (.aload_n 0, 1) := by decide +kernel
theorem dX8_worstFirst_61 : decode cX8_worstFirst 61 = .ok (.iload 4, 2) := by decide +kernel
theorem dX8_worstFirst_63 : decode cX8_worstFirst 63 = .ok (.invokevirtual 105, 3) := by decide +kernel
theorem dX8_worstFirst_66 : decode cX8_worstFirst 66 = .ok (.imul, 1) := by decide +kernel
theorem dX8_worstFirst_67 : decode cX8_worstFirst 67 = .ok (.aload_n 0, 1) := by decide +kernel
theorem dX8_worstFirst_68 : decode cX8_worstFirst 68 = .ok (.getfield 32, 3) := by decide +kernel
theorem dX8_worstFirst_71 : decode cX8_worstFirst 71 = .ok (.iconst 3, 1) := by decide +kernel
theorem dX8_worstFirst_72 : decode cX8_worstFirst 72 = .ok (.iload_n 3, 1) := by decide +kernel
theorem dX8_worstFirst_73 : decode cX8_worstFirst 73 = .ok (.imul, 1) := by decide +kernel
theorem dX8_worstFirst_74 : decode cX8_worstFirst 74 = .ok (.iconst 1, 1) := by decide +kernel
theorem dX8_worstFirst_75 : decode cX8_worstFirst 75 = .ok (.iadd, 1) := by decide +kernel
theorem dX8_worstFirst_76 : decode cX8_worstFirst 76 = .ok (.iaload, 1) := by decide +kernel
theorem dX8_worstFirst_77 : decode cX8_worstFirst 77 = .ok (.aload_n 0, 1) := by decide +kernel
theorem dX8_worstFirst_78 : decode cX8_worstFirst 78 = .ok (.iload_n 3, 1) := by decide +kernel
theorem dX8_worstFirst_79 : decode cX8_worstFirst 79 = .ok (.invokevirtual 105, 3) := by decide +kernel
theorem dX8_worstFirst_82 : decode cX8_worstFirst 82 = .ok (.imul, 1) := by decide +kernel
theorem dX8_worstFirst_83 : decode cX8_worstFirst 83 = .ok (.if_icmp .le 6, 3) := by decide +kernel
theorem dX8_worstFirst_86 : decode cX8_worstFirst 86 = .ok (.iload 4, 2) := by decide +kernel
theorem dX8_worstFirst_88 : decode cX8_worstFirst 88 = .ok (.istore_n 3, 1) := by decide +kernel
theorem dX8_worstFirst_89 : decode cX8_worstFirst 89 = .ok (.iinc 4 1, 3) := by decide +kernel
theorem dX8_worstFirst_92 : decode cX8_worstFirst 92 = .ok (.goto (-66), 3) := by decide +kernel
theorem dX8_worstFirst_95 : decode cX8_worstFirst 95 = .ok (.iload_n 1, 1) := by decide +kernel
theorem dX8_worstFirst_96 : decode cX8_worstFirst 96 = .ok (.iconst 1, 1) := by decide +kernel
theorem dX8_worstFirst_97 : decode cX8_worstFirst 97 = .ok (.iload_n 3, 1) := by decide +kernel
theorem dX8_worstFirst_98 : decode cX8_worstFirst 98 = .ok (.ishl, 1) := by decide +kernel
theorem dX8_worstFirst_99 : decode cX8_worstFirst 99 = .ok (.ior, 1) := by decide +kernel
theorem dX8_worstFirst_100 : decode cX8_worstFirst 100 = .ok (.istore_n 1, 1) := by decide +kernel
theorem dX8_worstFirst_101 : decode cX8_worstFirst 101 = .ok (.aload_n 0, 1) := by decide +kernel
theorem dX8_worstFirst_102 : decode cX8_worstFirst 102 = .ok (.bipush 10, 2) := by decide +kernel
theorem dX8_worstFirst_104 : decode cX8_worstFirst 104 = .ok (.aload_n 0, 1) := by decide +kernel
theorem dX8_worstFirst_105 : decode cX8_worstFirst 105 = .ok (.getfield 288, 3) := by decide +kernel
theorem dX8_worstFirst_108 : decode cX8_worstFirst 108 = .ok (.imul, 1) := by decide +kernel
theorem dX8_worstFirst_109 : decode cX8_worstFirst 109 = .ok (.iload_n 3, 1) := by decide +kernel
theorem dX8_worstFirst_110 : decode cX8_worstFirst 110 = .ok (.iadd, 1) := by decide +kernel
theorem dX8_worstFirst_111 : decode cX8_worstFirst 111 = .ok (.iconst 1, 1) := by decide +kernel
theorem dX8_worstFirst_112 : decode cX8_worstFirst 112 = .ok (.iadd, 1) := by decide +kernel
theorem dX8_worstFirst_113 : decode cX8_worstFirst 113 = .ok (.putfield 288, 3) := by decide +kernel
theorem dX8_worstFirst_116 : decode cX8_worstFirst 116 = .ok (.aload_n 0, 1) := by decide +kernel
theorem dX8_worstFirst_117 : decode cX8_worstFirst 117 = .ok (.iload_n 3, 1) := by decide +kernel
theorem dX8_worstFirst_118 : decode cX8_worstFirst 118 = .ok (.invokevirtual 252, 3) := by decide +kernel
theorem dX8_worstFirst_121 : decode cX8_worstFirst 121 = .ok (.iinc 2 1, 3) := by decide +kernel
theorem dX8_worstFirst_124 : decode cX8_worstFirst 124 = .ok (.goto (-111), 3) := by decide +kernel
theorem dX8_worstFirst_127 : decode cX8_worstFirst 127 = .ok (.aload_n 0, 1) := by decide +kernel
theorem dX8_worstFirst_128 : decode cX8_worstFirst 128 = .ok (.invokevirtual 256, 3) := by decide +kernel
theorem dX8_worstFirst_131 : decode cX8_worstFirst 131 = .ok (.ireturn, 1) := by decide +kernel
theorem dX8_worst_0 : decode cX8_worst 0 = .ok (.iload_n 1, 1) := by decide +kernel
theorem dX8_worst_1 : decode cX8_worst 1 = .ok (.i2l, 1) := by decide +kernel
theorem dX8_worst_2 : decode cX8_worst 2 = .ok (.lconst 0, 1) := by decide +kernel
theorem dX8_worst_3 : decode cX8_worst 3 = .ok (.lconst 1, 1) := by decide +kernel
theorem dX8_worst_4 : decode cX8_worst 4 = .ok (.invokestatic 76, 3) := by decide +kernel
theorem dX8_worst_7 : decode cX8_worst 7 = .ok (.ifCond .ne 6, 3) := by decide +kernel
theorem dX8_worst_10 : decode cX8_worst 10 = .ok (.bipush (-2), 2) := by decide +kernel
theorem dX8_worst_12 : decode cX8_worst 12 = .ok (.ireturn, 1) := by decide +kernel
theorem dX8_worst_13 : decode cX8_worst 13 = .ok (.aload_n 0, 1) := by decide +kernel
theorem dX8_worst_14 : decode cX8_worst 14 = .ok (.invokevirtual 291, 3) := by decide +kernel
theorem dX8_worst_17 : decode cX8_worst 17 = .ok (.istore_n 2, 1) := by decide +kernel
theorem dX8_worst_18 : decode cX8_worst 18 = .ok (.iload_n 1, 1) := by decide +kernel
theorem dX8_worst_19 : decode cX8_worst 19 = .ok (.ifCond .ne 7, 3) := by decide +kernel
theorem dX8_worst_22 : decode cX8_worst 22 = .ok (.iload_n 2, 1) := by decide +kernel
theorem dX8_worst_23 : decode cX8_worst 23 = .ok (.goto 7, 3) := by decide +kernel
theorem dX8_worst_26 : decode cX8_worst 26 = .ok (.aload_n 0, 1) := by decide +kernel
theorem dX8_worst_27 : decode cX8_worst 27 = .ok (.getfield 288, 3) := by decide +kernel
theorem dX8_worst_30 : decode cX8_worst 30 = .ok (.ireturn, 1) := by decide +kernel
theorem dX8_changed_0 : decode cX8_changed 0 = .ok (.aload_n 0, 1) := by decide +kernel
theorem dX8_changed_1 : decode cX8_changed 1 = .ok (.invokevirtual 108, 3) := by decide +kernel
theorem dX8_changed_4 : decode cX8_changed 4 = .ok (.iconst 0, 1) := by decide +kernel
theorem dX8_changed_5 : decode cX8_changed 5 = .ok (.istore_n 3, 1) := by decide +kernel
theorem dX8_changed_6 : decode cX8_changed 6 = .ok (.iload_n 3, 1) := by decide +kernel
theorem dX8_changed_7 : decode cX8_changed 7 = .ok (.aload_n 0, 1) := by decide +kernel
theorem dX8_changed_8 : decode cX8_changed 8 = .ok (.getfield 73, 3) := by decide +kernel
theorem dX8_changed_11 : decode cX8_changed 11 = .ok (.if_icmp .ge 32, 3) := by decide +kernel
theorem dX8_changed_14 : decode cX8_changed 14 = .ok (.aload_n 0, 1) := by decide +kernel
theorem dX8_changed_15 : decode cX8_changed 15 = .ok (.iload_n 3, 1) := by decide +kernel
theorem dX8_changed_16 : decode cX8_changed 16 = .ok (.iload_n 1, 1) := by decide +kernel
theorem dX8_changed_17 : decode cX8_changed 17 = .ok (.if_icmp .ne 7, 3) := by decide +kernel
theorem dX8_changed_20 : decode cX8_changed 20 = .ok (.iload_n 2, 1) := by decide +kernel
theorem dX8_changed_21 : decode cX8_changed 21 = .ok (.goto 13, 3) := by decide +kernel
theorem dX8_changed_24 : decode cX8_changed 24 = .ok (.iload_n 3, 1) := by decide +kernel
theorem dX8_changed_25 : decode cX8_changed 25 = .ok (.iload_n 2, 1) := by decide +kernel
theorem dX8_changed_26 : decode cX8_changed 26 = .ok (.if_icmp .ne 7, 3) := by decide +kernel
theorem dX8_changed_29 : decode cX8_changed 29 = .ok (.iload_n 1, 1) := by decide +kernel
theorem dX8_changed_30 : decode cX8_changed 30 = .ok (.goto 4, 3) := by decide +kernel
theorem dX8_changed_33 : decode cX8_changed 33 = .ok (.iload_n 3, 1) := by decide +kernel
theorem dX8_changed_34 : decode cX8_changed 34 = .ok (.invokevirtual 252, 3) := by decide +kernel
theorem dX8_changed_37 : decode cX8_changed 37 = .ok (.iinc 3 1, 3) := by decide +kernel
theorem dX8_changed_40 : decode cX8_changed 40 = .ok (.goto (-34), 3) := by decide +kernel
theorem dX8_changed_43 : decode cX8_changed 43 = .ok (.aload_n 0, 1) := by decide +kernel
theorem dX8_changed_44 : decode cX8_changed 44 = .ok (.invokevirtual 256, 3) := by decide +kernel
theorem dX8_changed_47 : decode cX8_changed 47 = .ok (.ireturn, 1) := by decide +kernel
theorem dX8_change_0 : decode cX8_change 0 = .ok (.iload_n 1, 1) := by decide +kernel
theorem dX8_change_1 : decode cX8_change 1 = .ok (.i2l, 1) := by decide +kernel
theorem dX8_change_2 : decode cX8_change 2 = .ok (.lconst 0, 1) := by decide +kernel
theorem dX8_change_3 : decode cX8_change 3 = .ok (.lconst 1, 1) := by decide +kernel
theorem dX8_change_4 : decode cX8_change 4 = .ok (.invokestatic 76, 3) := by decide +kernel
theorem dX8_change_7 : decode cX8_change 7 = .ok (.ifCond .ne 6, 3) := by decide +kernel
theorem dX8_change_10 : decode cX8_change 10 = .ok (.bipush (-2), 2) := by decide +kernel
theorem dX8_change_12 : decode cX8_change 12 = .ok (.ireturn, 1) := by decide +kernel
theorem dX8_change_13 : decode cX8_change 13 = .ok (.aload_n 0, 1) := by decide +kernel
theorem dX8_change_14 : decode cX8_change 14 = .ok (.iconst (-1), 1) := by decide +kernel
theorem dX8_change_15 : decode cX8_change 15 = .ok (.invokevirtual 264, 3) := by decide +kernel
theorem dX8_change_18 : decode cX8_change 18 = .ok (.istore_n 2, 1) := by decide +kernel
theorem dX8_change_19 : decode cX8_change 19 = .ok (.iconst (-1), 1) := by decide +kernel
theorem dX8_change_20 : decode cX8_change 20 = .ok (.istore_n 3, 1) := by decide +kernel
theorem dX8_change_21 : decode cX8_change 21 = .ok (.iconst 0, 1) := by decide +kernel
theorem dX8_change_22 : decode cX8_change 22 = .ok (.istore 4, 2) := by decide +kernel
theorem dX8_change_24 : decode cX8_change 24 = .ok (.iload 4, 2) := by decide +kernel
theorem dX8_change_26 : decode cX8_change 26 = .ok (.aload_n 0, 1) := by decide +kernel
theorem dX8_change_27 : decode cX8_change 27 = .ok (.getfield 73, 3) := by decide +kernel
theorem dX8_change_30 : decode cX8_change 30 = .ok (.if_icmp .ge 58, 3) := by decide +kernel
theorem dX8_change_33 : decode cX8_change 33 = .ok (.iload 4, 2) := by decide +kernel
theorem dX8_change_35 : decode cX8_change 35 = .ok (.iconst 1, 1) := by decide +kernel
theorem dX8_change_36 : decode cX8_change 36 = .ok (.iadd, 1) := by decide +kernel
theorem dX8_change_37 : decode cX8_change 37 = .ok (.istore 5, 2) := by decide +kernel
theorem dX8_change_39 : decode cX8_change 39 = .ok (.iload 5, 2) := by decide +kernel
theorem dX8_change_41 : decode cX8_change 41 = .ok (.aload_n 0, 1) := by decide +kernel
theorem dX8_change_42 : decode cX8_change 42 = .ok (.getfield 73, 3) := by decide +kernel
theorem dX8_change_45 : decode cX8_change 45 = .ok (.if_icmp .ge 37, 3) := by decide +kernel
theorem dX8_change_48 : decode cX8_change 48 = .ok (.aload_n 0, 1) := by decide +kernel
theorem dX8_change_49 : decode cX8_change 49 = .ok (.iload 4, 2) := by decide +kernel
theorem dX8_change_51 : decode cX8_change 51 = .ok (.iload 5, 2) := by decide +kernel
theorem dX8_change_53 : decode cX8_change 53 = .ok (.invokevirtual 294, 3) := by decide +kernel
theorem dX8_change_56 : decode cX8_change 56 = .ok (.istore 6, 2) := by decide +kernel
theorem dX8_change_58 : decode cX8_change 58 = .ok (.iload 6, 2) := by decide +kernel
theorem dX8_change_60 : decode cX8_change 60 = .ok (.iload_n 2, 1) := by decide +kernel
theorem dX8_change_61 : decode cX8_change 61 = .ok (.if_icmp .ge 15, 3) := by decide +kernel
theorem dX8_change_64 : decode cX8_change 64 = .ok (.bipush 10, 2) := by decide +kernel
theorem dX8_change_66 : decode cX8_change 66 = .ok (.iload 4, 2) := by decide +kernel
theorem dX8_change_68 : decode cX8_change 68 = .ok (.imul, 1) := by decide +kernel
theorem dX8_change_69 : decode cX8_change 69 = .ok (.iload 5, 2) := by decide +kernel
theorem dX8_change_71 : decode cX8_change 71 = .ok (.iadd, 1) := by decide +kernel
theorem dX8_change_72 : decode cX8_change 72 = .ok (.istore_n 3, 1) := by decide +kernel
theorem dX8_change_73 : decode cX8_change 73 = .ok (.iload 6, 2) := by decide +kernel
theorem dX8_change_75 : decode cX8_change 75 = .ok (.istore_n 2, 1) := by decide +kernel
theorem dX8_change_76 : decode cX8_change 76 = .ok (.iinc 5 1, 3) := by decide +kernel
theorem dX8_change_79 : decode cX8_change 79 = .ok (.goto (-40), 3) := by decide +kernel
theorem dX8_change_82 : decode cX8_change 82 = .ok (.iinc 4 1, 3) := by decide +kernel
theorem dX8_change_85 : decode cX8_change 85 = .ok (.goto (-61), 3) := by decide +kernel
theorem dX8_change_88 : decode cX8_change 88 = .ok (.iload_n 1, 1) := by decide +kernel
theorem dX8_change_89 : decode cX8_change 89 = .ok (.ifCond .ne 7, 3) := by decide +kernel
theorem dX8_change_92 : decode cX8_change 92 = .ok (.iload_n 3, 1) := by decide +kernel
theorem dX8_change_93 : decode cX8_change 93 = .ok (.goto 4, 3) := by decide +kernel
theorem dX8_change_96 : decode cX8_change 96 = .ok (.iload_n 2, 1) := by decide +kernel
theorem dX8_change_97 : decode cX8_change 97 = .ok (.ireturn, 1) := by decide +kernel
theorem dX8_leave_0 : decode cX8_leave 0 = .ok (.iload_n 1, 1) := by decide +kernel
theorem dX8_leave_1 : decode cX8_leave 1 = .ok (.i2l, 1) := by decide +kernel
theorem dX8_leave_2 : decode cX8_leave 2 = .ok (.lconst 0, 1) := by decide +kernel
theorem dX8_leave_3 : decode cX8_leave 3 = .ok (.lconst 1, 1) := by decide +kernel
theorem dX8_leave_4 : decode cX8_leave 4 = .ok (.invokestatic 76, 3) := by decide +kernel
theorem dX8_leave_7 : decode cX8_leave 7 = .ok (.ifCond .ne 6, 3) := by decide +kernel
theorem dX8_leave_10 : decode cX8_leave 10 = .ok (.bipush (-2), 2) := by decide +kernel
theorem dX8_leave_12 : decode cX8_leave 12 = .ok (.ireturn, 1) := by decide +kernel
theorem dX8_leave_13 : decode cX8_leave 13 = .ok (.aload_n 0, 1) := by decide +kernel
theorem dX8_leave_14 : decode cX8_leave 14 = .ok (.iconst (-1), 1) := by decide +kernel
theorem dX8_leave_15 : decode cX8_leave 15 = .ok (.invokevirtual 264, 3) := by decide +kernel
theorem dX8_leave_18 : decode cX8_leave 18 = .ok (.istore_n 2, 1) := by decide +kernel
theorem dX8_leave_19 : decode cX8_leave 19 = .ok (.iconst (-1), 1) := by decide +kernel
theorem dX8_leave_20 : decode cX8_leave 20 = .ok (.istore_n 3, 1) := by decide +kernel
theorem dX8_leave_21 : decode cX8_leave 21 = .ok (.iconst 0, 1) := by decide +kernel
theorem dX8_leave_22 : decode cX8_leave 22 = .ok (.istore 4, 2) := by decide +kernel
theorem dX8_leave_24 : decode cX8_leave 24 = .ok (.iload 4, 2) := by decide +kernel
theorem dX8_leave_26 : decode cX8_leave 26 = .ok (.aload_n 0, 1) := by decide +kernel
theorem dX8_leave_27 : decode cX8_leave 27 = .ok (.getfield 73, 3) := by decide +kernel
theorem dX8_leave_30 : decode cX8_leave 30 = .ok (.if_icmp .ge 29, 3) := by decide +kernel
theorem dX8_leave_33 : decode cX8_leave 33 = .ok (.aload_n 0, 1) := by decide +kernel
theorem dX8_leave_34 : decode cX8_leave 34 = .ok (.iload 4, 2) := by decide +kernel
theorem dX8_leave_36 : decode cX8_leave 36 = .ok (.invokevirtual 264, 3) := by decide +kernel
theorem dX8_leave_39 : decode cX8_leave 39 = .ok (.istore 5, 2) := by decide +kernel
theorem dX8_leave_41 : decode cX8_leave 41 = .ok (.iload 5, 2) := by decide +kernel
theorem dX8_leave_43 : decode cX8_leave 43 = .ok (.iload_n 2, 1) := by decide +kernel
theorem dX8_leave_44 : decode cX8_leave 44 = .ok (.if_icmp .ge 9, 3) := by decide +kernel
theorem dX8_leave_47 : decode cX8_leave 47 = .ok (.iload 4, 2) := by decide +kernel
theorem dX8_leave_49 : decode cX8_leave 49 = .ok (.istore_n 3, 1) := by decide +kernel
theorem dX8_leave_50 : decode cX8_leave 50 = .ok (.iload 5, 2) := by decide +kernel
theorem dX8_leave_52 : decode cX8_leave 52 = .ok (.istore_n 2, 1) := by decide +kernel
theorem dX8_leave_53 : decode cX8_leave 53 = .ok (.iinc 4 1, 3) := by decide +kernel
theorem dX8_leave_56 : decode cX8_leave 56 = .ok (.goto (-32), 3) := by decide +kernel
theorem dX8_leave_59 : decode cX8_leave 59 = .ok (.iload_n 1, 1) := by decide +kernel
theorem dX8_leave_60 : decode cX8_leave 60 = .ok (.ifCond .ne 7, 3) := by decide +kernel
theorem dX8_leave_63 : decode cX8_leave 63 = .ok (.iload_n 3, 1) := by decide +kernel
theorem dX8_leave_64 : decode cX8_leave 64 = .ok (.goto 4, 3) := by decide +kernel
theorem dX8_leave_67 : decode cX8_leave 67 = .ok (.iload_n 2, 1) := by decide +kernel
theorem dX8_leave_68 : decode cX8_leave 68 = .ok (.ireturn, 1) := by decide +kernel
theorem dX8_spray_0 : decode cX8_spray 0 = .ok (.iload_n 1, 1) := by decide +kernel
theorem dX8_spray_1 : decode cX8_spray 1 = .ok (.i2l, 1) := by decide +kernel
theorem dX8_spray_2 : decode cX8_spray 2 = .ok (.lconst 0, 1) := by decide +kernel
theorem dX8_spray_3 : decode cX8_spray 3 = .ok (.lconst 1, 1) := by decide +kernel
theorem dX8_spray_4 : decode cX8_spray 4 = .ok (.invokestatic 76, 3) := by decide +kernel
theorem dX8_spray_7 : decode cX8_spray 7 = .ok (.ifCond .ne 6, 3) := by decide +kernel
theorem dX8_spray_10 : decode cX8_spray 10 = .ok (.bipush (-2), 2) := by decide +kernel
theorem dX8_spray_12 : decode cX8_spray 12 = .ok (.ireturn, 1) := by decide +kernel
theorem dX8_spray_13 : decode cX8_spray 13 = .ok (.aload_n 0, 1) := by decide +kernel
theorem dX8_spray_14 : decode cX8_spray 14 = .ok (.iconst (-1), 1) := by decide +kernel
theorem dX8_spray_15 : decode cX8_spray 15 = .ok (.invokevirtual 264, 3) := by decide +kernel
theorem dX8_spray_18 : decode cX8_spray 18 = .ok (.istore_n 2, 1) := by decide +kernel
theorem dX8_spray_19 : decode cX8_spray 19 = .ok (.iconst (-1), 1) := by decide +kernel
theorem dX8_spray_20 : decode cX8_spray 20 = .ok (.istore_n 3, 1) := by decide +kernel
theorem dX8_spray_21 : decode cX8_spray 21 = .ok (.iconst 0, 1) := by decide +kernel
theorem dX8_spray_22 : decode cX8_spray 22 = .ok (.istore 4, 2) := by decide +kernel
theorem dX8_spray_24 : decode cX8_spray 24 = .ok (.iload 4, 2) := by decide +kernel
theorem dX8_spray_26 : decode cX8_spray 26 = .ok (.aload_n 0, 1) := by decide +kernel
theorem dX8_spray_27 : decode cX8_spray 27 = .ok (.getfield 73, 3) := by decide +kernel
theorem dX8_spray_30 : decode cX8_spray 30 = .ok (.if_icmp .ge 75, 3) := by decide +kernel
theorem dX8_spray_33 : decode cX8_spray 33 = .ok (.aload_n 0, 1) := by decide +kernel
theorem dX8_spray_34 : decode cX8_spray 34 = .ok (.invokevirtual 108, 3) := by decide +kernel
theorem dX8_spray_37 : decode cX8_spray 37 = .ok (.iconst 0, 1) := by decide +kernel
theorem dX8_spray_38 : decode cX8_spray 38 = .ok (.istore 5, 2) := by decide +kernel
theorem dX8_spray_40 : decode cX8_spray 40 = .ok (.iload 5, 2) := by decide +kernel
theorem dX8_spray_42 : decode cX8_spray 42 = .ok (.aload_n 0, 1) := by decide +kernel
theorem dX8_spray_43 : decode cX8_spray 43 = .ok (.getfield 73, 3) := by decide +kernel
theorem dX8_spray_46 : decode cX8_spray 46 = .ok (.if_icmp .ge 37, 3) := by decide +kernel
theorem dX8_spray_49 : decode cX8_spray 49 = .ok (.aload_n 0, 1) := by decide +kernel
theorem dX8_spray_50 : decode cX8_spray 50 = .ok (.iload 5, 2) := by decide +kernel
theorem dX8_spray_52 : decode cX8_spray 52 = .ok (.iload 4, 2) := by decide +kernel
theorem dX8_spray_54 : decode cX8_spray 54 = .ok (.if_icmp .ne 10, 3) := by decide +kernel
theorem dX8_spray_57 : decode cX8_spray 57 = .ok (.aload_n 0, 1) := by decide +kernel
theorem dX8_spray_58 : decode cX8_spray 58 = .ok (.getfield 239, 3) := by decide +kernel
theorem dX8_spray_61 : decode cX8_spray 61 = .ok (.goto 7, 3) := by decide +kernel
theorem dX8_spray_64 : decode cX8_spray 64 = .ok (.aload_n 0, 1) := by decide +kernel
theorem dX8_spray_65 : decode cX8_spray 65 = .ok (.getfield 242, 3) := by decide +kernel
theorem dX8_spray_68 : decode cX8_spray 68 = .ok (.putfield 242, 3) := by decide +kernel
theorem dX8_spray_71 : decode cX8_spray 71 = .ok (.aload_n 0, 1) := by decide +kernel
theorem dX8_spray_72 : decode cX8_spray 72 = .ok (.iload 5, 2) := by decide +kernel
theorem dX8_spray_74 : decode cX8_spray 74 = .ok (.invokevirtual 252, 3) := by decide +kernel
theorem dX8_spray_77 : decode cX8_spray 77 = .ok (.iinc 5 1, 3) := by decide +kernel
theorem dX8_spray_80 : decode cX8_spray 80 = .ok (.goto (-40), 3) := by decide +kernel
theorem dX8_spray_83 : decode cX8_spray 83 = .ok (.aload_n 0, 1) := by decide +kernel
theorem dX8_spray_84 : decode cX8_spray 84 = .ok (.invokevirtual 256, 3) := by decide +kernel
theorem dX8_spray_87 : decode cX8_spray 87 = .ok (.iload_n 2, 1) := by decide +kernel
theorem dX8_spray_88 : decode cX8_spray 88 = .ok (.if_icmp .ge 11, 3) := by decide +kernel
theorem dX8_spray_91 : decode cX8_spray 91 = .ok (.iload 4, 2) := by decide +kernel
theorem dX8_spray_93 : decode cX8_spray 93 = .ok (.istore_n 3, 1) := by decide +kernel
theorem dX8_spray_94 : decode cX8_spray 94 = .ok (.aload_n 0, 1) := by decide +kernel
theorem dX8_spray_95 : decode cX8_spray 95 = .ok (.invokevirtual 256, 3) := by decide +kernel
theorem dX8_spray_98 : decode cX8_spray 98 = .ok (.istore_n 2, 1) := by decide +kernel
theorem dX8_spray_99 : decode cX8_spray 99 = .ok (.iinc 4 1, 3) := by decide +kernel
theorem dX8_spray_102 : decode cX8_spray 102 = .ok (.goto (-78), 3) := by decide +kernel
theorem dX8_spray_105 : decode cX8_spray 105 = .ok (.iload_n 1, 1) := by decide +kernel
theorem dX8_spray_106 : decode cX8_spray 106 = .ok (.ifCond .ne 7, 3) := by decide +kernel
theorem dX8_spray_109 : decode cX8_spray 109 = .ok (.iload_n 3, 1) := by decide +kernel
theorem dX8_spray_110 : decode cX8_spray 110 = .ok (.goto 4, 3) := by decide +kernel
theorem dX8_spray_113 : decode cX8_spray 113 = .ok (.iload_n 2, 1) := by decide +kernel
theorem dX8_spray_114 : decode cX8_spray 114 = .ok (.ireturn, 1) := by decide +kernel
theorem dX8_how_0 : decode cX8_how 0 = .ok (.iload_n 1, 1) := by decide +kernel
theorem dX8_how_1 : decode cX8_how 1 = .ok (.i2l, 1) := by decide +kernel
theorem dX8_how_2 : decode cX8_how 2 = .ok (.lconst 0, 1) := by decide +kernel
theorem dX8_how_3 : decode cX8_how 3 = .ok (.ldc2_w 297, 3) := by decide +kernel
theorem dX8_how_6 : decode cX8_how 6 = .ok (.invokestatic 76, 3) := by decide +kernel
theorem dX8_how_9 : decode cX8_how 9 = .ok (.ifCond .ne 6, 3) := by decide +kernel
theorem dX8_how_12 : decode cX8_how 12 = .ok (.bipush (-2), 2) := by decide +kernel
theorem dX8_how_14 : decode cX8_how 14 = .ok (.ireturn, 1) := by decide +kernel
theorem dX8_how_15 : decode cX8_how 15 = .ok (.iload_n 1, 1) := by decide +kernel
theorem dX8_how_16 : decode cX8_how 16 = .ok (.iconst 2, 1) := by decide +kernel
theorem dX8_how_17 : decode cX8_how 17 = .ok (.if_icmp .ge 7, 3) := by decide +kernel
theorem dX8_how_20 : decode cX8_how 20 = .ok (.iconst 1, 1) := by decide +kernel
theorem dX8_how_21 : decode cX8_how 21 = .ok (.goto 4, 3) := by decide +kernel
theorem dX8_how_24 : decode cX8_how 24 = .ok (.iconst 0, 1) := by decide +kernel
theorem dX8_how_25 : decode cX8_how 25 = .ok (.istore_n 2, 1) := by decide +kernel
theorem dX8_how_26 : decode cX8_how 26 = .ok (.iload_n 2, 1) := by decide +kernel
theorem dX8_how_27 : decode cX8_how 27 = .ok (.iconst 1, 1) := by decide +kernel
theorem dX8_how_28 : decode cX8_how 28 = .ok (.if_icmp .ne 10, 3) := by decide +kernel
theorem dX8_how_31 : decode cX8_how 31 = .ok (.aload_n 0, 1) := by decide +kernel
theorem dX8_how_32 : decode cX8_how 32 = .ok (.getfield 26, 3) := by decide +kernel
theorem dX8_how_35 : decode cX8_how 35 = .ok (.goto 7, 3) := by decide +kernel
theorem dX8_how_38 : decode cX8_how 38 = .ok (.aload_n 0, 1) := by decide +kernel
theorem dX8_how_39 : decode cX8_how 39 = .ok (.getfield 23, 3) := by decide +kernel
theorem dX8_how_42 : decode cX8_how 42 = .ok (.istore_n 3, 1) := by decide +kernel
theorem dX8_how_43 : decode cX8_how 43 = .ok (.iconst (-1), 1) := by decide +kernel
theorem dX8_how_44 : decode cX8_how 44 = .ok (.istore 4, 2) := by decide +kernel
theorem dX8_how_46 : decode cX8_how 46 = .ok (.iconst 0, 1) := by decide +kernel
theorem dX8_how_47 : decode cX8_how 47 = .ok (.istore 5, 2) := by decide +kernel
theorem dX8_how_49 : decode cX8_how 49 = .ok (.iconst 0, 1) := by decide +kernel
theorem dX8_how_50 : decode cX8_how 50 = .ok (.istore 6, 2) := by decide +kernel
theorem dX8_how_52 : decode cX8_how 52 = .ok (.iload 6, 2) := by decide +kernel
theorem dX8_how_54 : decode cX8_how 54 = .ok (.iload_n 2, 1) := by decide +kernel
theorem dX8_how_55 : decode cX8_how 55 = .ok (.invokestatic 86, 3) := by decide +kernel
theorem dX8_how_58 : decode cX8_how 58 = .ok (.if_icmp .gt 45, 3) := by decide +kernel
theorem dX8_how_61 : decode cX8_how 61 = .ok (.aload_n 0, 1) := by decide +kernel
theorem dX8_how_62 : decode cX8_how 62 = .ok (.iload_n 2, 1) := by decide +kernel
theorem dX8_how_63 : decode cX8_how 63 = .ok (.iconst 0, 1) := by decide +kernel
theorem dX8_how_64 : decode cX8_how 64 = .ok (.iload 6, 2) := by decide +kernel
theorem dX8_how_66 : decode cX8_how 66 = .ok (.invokevirtual 94, 3) := by decide +kernel
theorem dX8_how_69 : decode cX8_how 69 = .ok (.aload_n 0, 1) := by decide +kernel
theorem dX8_how_70 : decode cX8_how 70 = .ok (.iconst (-1), 1) := by decide +kernel
theorem dX8_how_71 : decode cX8_how 71 = .ok (.invokevirtual 264, 3) := by decide +kernel
theorem dX8_how_74 : decode cX8_how 74 = .ok (.istore 7, 2) := by decide +kernel
theorem dX8_how_76 : decode cX8_how 76 = .ok (.iload 4, 2) := by decide +kernel
theorem dX8_how_78 : decode cX8_how 78 = .ok (.iconst (-1), 1) := by decide +kernel
theorem dX8_how_79 : decode cX8_how 79 = .ok (.if_icmp .eq 10, 3) := by decide +kernel
theorem dX8_how_82 : decode cX8_how 82 = .ok (.iload 7, 2) := by decide +kernel
theorem dX8_how_84 : decode cX8_how 84 = .ok (.iload 5, 2) := by decide +kernel
theorem dX8_how_86 : decode cX8_how 86 = .ok (.if_icmp .ge 11, 3) := by decide +kernel
theorem dX8_how_89 : decode cX8_how 89 = .ok (.iload 6, 2) := by decide +kernel
theorem dX8_how_91 : decode cX8_how 91 = .ok (.istore 4, 2) := by decide +kernel
theorem dX8_how_93 : decode cX8_how 93 = .ok (.iload 7, 2) := by decide +kernel
theorem dX8_how_95 : decode cX8_how 95 = .ok (.istore 5, 2) := by decide +kernel
theorem dX8_how_97 : decode cX8_how 97 = .ok (.iinc 6 1, 3) := by decide +kernel
theorem dX8_how_100 : decode cX8_how 100 = .ok (.goto (-48), 3) := by decide +kernel
theorem dX8_how_103 : decode cX8_how 103 = .ok (.aload_n 0, 1) := by decide +kernel
theorem dX8_how_104 : decode cX8_how 104 = .ok (.iload_n 2, 1) := by decide +kernel
theorem dX8_how_105 : decode cX8_how 105 = .ok (.iconst 0, 1) := by decide +kernel
theorem dX8_how_106 : decode cX8_how 106 = .ok (.iload_n 3, 1) := by decide +kernel
theorem dX8_how_107 : decode cX8_how 107 = .ok (.invokevirtual 94, 3) := by decide +kernel
theorem dX8_how_110 : decode cX8_how 110 = .ok (.iload_n 1, 1) := by decide +kernel
theorem dX8_how_111 : decode cX8_how 111 = .ok (.iconst 2, 1) := by decide +kernel
theorem dX8_how_112 : decode cX8_how 112 = .ok (.irem, 1) := by decide +kernel
theorem dX8_how_113 : decode cX8_how 113 = .ok (.ifCond .ne 8, 3) := by decide +kernel
theorem dX8_how_116 : decode cX8_how 116 = .ok (.iload 4, 2) := by decide +kernel
theorem dX8_how_118 : decode cX8_how 118 = .ok (.goto 5, 3) := by decide +kernel
theorem dX8_how_121 : decode cX8_how 121 = .ok (.iload 5, 2) := by decide +kernel
theorem dX8_how_123 : decode cX8_how 123 = .ok (.ireturn, 1) := by decide +kernel
theorem dX8_bitsOf_0 : decode cX8_bitsOf 0 = .ok (.iconst 0, 1) := by decide +kernel
theorem dX8_bitsOf_1 : decode cX8_bitsOf 1 = .ok (.istore_n 1, 1) := by decide +kernel
theorem dX8_bitsOf_2 : decode cX8_bitsOf 2 = .ok (.iload_n 0, 1) := by decide +kernel
theorem dX8_bitsOf_3 : decode cX8_bitsOf 3 = .ok (.istore_n 2, 1) := by decide +kernel
theorem dX8_bitsOf_4 : decode cX8_bitsOf 4 = .ok (.iload_n 2, 1) := by decide +kernel
theorem dX8_bitsOf_5 : decode cX8_bitsOf 5 = .ok (.ifCond .eq 15, 3) := by decide +kernel
theorem dX8_bitsOf_8 : decode cX8_bitsOf 8 = .ok (.iinc 1 1, 3) := by decide +kernel
theorem dX8_bitsOf_11 : decode cX8_bitsOf 11 = .ok (.iload_n 2, 1) := by decide +kernel
theorem dX8_bitsOf_12 : decode cX8_bitsOf 12 = .ok (.iload_n 2, 1) := by decide +kernel
theorem dX8_bitsOf_13 : decode cX8_bitsOf 13 = .ok (.iconst 1, 1) := by decide +kernel
theorem dX8_bitsOf_14 : decode cX8_bitsOf 14 = .ok (.isub, 1) := by decide +kernel
theorem dX8_bitsOf_15 : decode cX8_bitsOf 15 = .ok (.iand, 1) := by decide +kernel
theorem dX8_bitsOf_16 : decode cX8_bitsOf 16 = .ok (.istore_n 2, 1) := by decide +kernel
theorem dX8_bitsOf_17 : decode cX8_bitsOf 17 = .ok (.goto (-13), 3) := by decide +kernel
theorem dX8_bitsOf_20 : decode cX8_bitsOf 20 = .ok (.iload_n 1, 1) := by decide +kernel
theorem dX8_bitsOf_21 : decode cX8_bitsOf 21 = .ok (.ireturn, 1) := by decide +kernel
theorem dX8_enough_0 : decode cX8_enough 0 = .ok (.iload_n 1, 1) := by decide +kernel
theorem dX8_enough_1 : decode cX8_enough 1 = .ok (.i2l, 1) := by decide +kernel
theorem dX8_enough_2 : decode cX8_enough 2 = .ok (.lconst 0, 1) := by decide +kernel
theorem dX8_enough_3 : decode cX8_enough 3 = .ok (.ldc2_w 299, 3) := by decide +kernel
theorem dX8_enough_6 : decode cX8_enough 6 = .ok (.invokestatic 76, 3) := by decide +kernel
theorem dX8_enough_9 : decode cX8_enough 9 = .ok (.ifCond .ne 6, 3) := by decide +kernel
theorem dX8_enough_12 : decode cX8_enough 12 = .ok (.bipush (-2), 2) := by decide +kernel
theorem dX8_enough_14 : decode cX8_enough 14 = .ok (.ireturn, 1) := by decide +kernel
theorem dX8_enough_15 : decode cX8_enough 15 = .ok (.iconst (-1), 1) := by decide +kernel
theorem dX8_enough_16 : decode cX8_enough 16 = .ok (.istore_n 2, 1) := by decide +kernel
theorem dX8_enough_17 : decode cX8_enough 17 = .ok (.iconst 0, 1) := by decide +kernel
theorem dX8_enough_18 : decode cX8_enough 18 = .ok (.istore_n 3, 1) := by decide +kernel
theorem dX8_enough_19 : decode cX8_enough 19 = .ok (.iload_n 3, 1) := by decide +kernel
theorem dX8_enough_20 : decode cX8_enough 20 = .ok (.iconst 1, 1) := by decide +kernel
theorem dX8_enough_21 : decode cX8_enough 21 = .ok (.aload_n 0, 1) := by decide +kernel
theorem dX8_enough_22 : decode cX8_enough 22 = .ok (.getfield 73, 3) := by decide +kernel
theorem dX8_enough_25 : decode cX8_enough 25 = .ok (.ishl, 1) := by decide +kernel
theorem dX8_enough_26 : decode cX8_enough 26 = .ok (.if_icmp .ge 77, 3) := by decide +kernel
theorem dX8_enough_29 : decode cX8_enough 29 = .ok (.iload_n 2, 1) := by decide +kernel
theorem dX8_enough_30 : decode cX8_enough 30 = .ok (.iconst (-1), 1) := by decide +kernel
theorem dX8_enough_31 : decode cX8_enough 31 = .ok (.if_icmp .eq 14, 3) := by decide +kernel
theorem dX8_enough_34 : decode cX8_enough 34 = .ok (.iload_n 3, 1) := by decide +kernel
theorem dX8_enough_35 : decode cX8_enough 35 = .ok (.invokestatic 301, 3) := by decide +kernel
theorem dX8_enough_38 : decode cX8_enough 38 = .ok (.iload_n 2, 1) := by decide +kernel
theorem dX8_enough_39 : decode cX8_enough 39 = .ok (.invokestatic 301, 3) := by decide +kernel
theorem dX8_enough_42 : decode cX8_enough 42 = .ok (.if_icmp .ge 55, 3) := by decide +kernel
theorem dX8_enough_45 : decode cX8_enough 45 = .ok (.aload_n 0, 1) := by decide +kernel
theorem dX8_enough_46 : decode cX8_enough 46 = .ok (.invokevirtual 108, 3) := by decide +kernel
theorem dX8_enough_49 : decode cX8_enough 49 = .ok (.iconst 0, 1) := by decide +kernel
theorem dX8_enough_50 : decode cX8_enough 50 = .ok (.istore 4, 2) := by decide +kernel
theorem dX8_enough_52 : decode cX8_enough 52 = .ok (.iload 4, 2) := by decide +kernel
theorem dX8_enough_54 : decode cX8_enough 54 = .ok (.aload_n 0, 1) := by decide +kernel
theorem dX8_enough_55 : decode cX8_enough 55 = .ok (.getfield 73, 3) := by decide +kernel
theorem dX8_enough_58 : decode cX8_enough 58 = .ok (.if_icmp .ge 25, 3) := by decide +kernel
theorem dX8_enough_61 : decode cX8_enough 61 = .ok (.iload_n 3, 1) := by decide +kernel
theorem dX8_enough_62 : decode cX8_enough 62 = .ok (.iload 4, 2) := by decide +kernel
theorem dX8_enough_64 : decode cX8_enough 64 = .ok (.ishr, 1) := by decide +kernel
theorem dX8_enough_65 : decode cX8_enough 65 = .ok (.iconst 1, 1) := by decide +kernel
theorem dX8_enough_66 : decode cX8_enough 66 = .ok (.iand, 1) := by decide +kernel
theorem dX8_enough_67 : decode cX8_enough 67 = .ok (.iconst 1, 1) := by decide +kernel
theorem dX8_enough_68 : decode cX8_enough 68 = .ok (.if_icmp .ne 9, 3) := by decide +kernel
theorem dX8_enough_71 : decode cX8_enough 71 = .ok (.aload_n 0, 1) := by decide +kernel
theorem dX8_enough_72 : decode cX8_enough 72 = .ok (.iload 4, 2) := by decide +kernel
theorem dX8_enough_74 : decode cX8_enough 74 = .ok (.invokevirtual 252, 3) := by decide +kernel
theorem dX8_enough_77 : decode cX8_enough 77 = .ok (.iinc 4 1, 3) := by decide +kernel
theorem dX8_enough_80 : decode cX8_enough 80 = .ok (.goto (-28), 3) := by decide +kernel
theorem dX8_enough_83 : decode cX8_enough 83 = .ok (.aload_n 0, 1) := by decide +kernel
theorem dX8_enough_84 : decode cX8_enough 84 = .ok (.invokevirtual 256, 3) := by decide +kernel
theorem dX8_enough_87 : decode cX8_enough 87 = .ok (.iload_n 1, 1) := by decide +kernel
theorem dX8_enough_88 : decode cX8_enough 88 = .ok (.if_icmp .gt 7, 3) := by decide +kernel
theorem dX8_enough_91 : decode cX8_enough 91 = .ok (.iload_n 3, 1) := by decide +kernel
theorem dX8_enough_92 : decode cX8_enough 92 = .ok (.goto 4, 3) := by decide +kernel
theorem dX8_enough_95 : decode cX8_enough 95 = .ok (.iload_n 2, 1) := by decide +kernel
theorem dX8_enough_96 : decode cX8_enough 96 = .ok (.istore_n 2, 1) := by decide +kernel
theorem dX8_enough_97 : decode cX8_enough 97 = .ok (.iinc 3 1, 3) := by decide +kernel
theorem dX8_enough_100 : decode cX8_enough 100 = .ok (.goto (-81), 3) := by decide +kernel
theorem dX8_enough_103 : decode cX8_enough 103 = .ok (.iload_n 2, 1) := by decide +kernel
theorem dX8_enough_104 : decode cX8_enough 104 = .ok (.ireturn, 1) := by decide +kernel
theorem dX8_unlike_0 : decode cX8_unlike 0 = .ok (.aload_n 0, 1) := by decide +kernel
theorem dX8_unlike_1 : decode cX8_unlike 1 = .ok (.iconst (-1), 1) := by decide +kernel
theorem dX8_unlike_2 : decode cX8_unlike 2 = .ok (.invokevirtual 264, 3) := by decide +kernel
theorem dX8_unlike_5 : decode cX8_unlike 5 = .ok (.pop, 1) := by decide +kernel
theorem dX8_unlike_6 : decode cX8_unlike 6 = .ok (.iconst 0, 1) := by decide +kernel
theorem dX8_unlike_7 : decode cX8_unlike 7 = .ok (.istore_n 2, 1) := by decide +kernel
theorem dX8_unlike_8 : decode cX8_unlike 8 = .ok (.iconst 0, 1) := by decide +kernel
theorem dX8_unlike_9 : decode cX8_unlike 9 = .ok (.istore_n 3, 1) := by decide +kernel
theorem dX8_unlike_10 : decode cX8_unlike 10 = .ok (.iload_n 3, 1) := by decide +kernel
theorem dX8_unlike_11 : decode cX8_unlike 11 = .ok (.aload_n 0, 1) := by decide +kernel
theorem dX8_unlike_12 : decode cX8_unlike 12 = .ok (.getfield 73, 3) := by decide +kernel
theorem dX8_unlike_15 : decode cX8_unlike 15 = .ok (.if_icmp .ge 39, 3) := by decide +kernel
theorem dX8_unlike_18 : decode cX8_unlike 18 = .ok (.iload_n 2, 1) := by decide +kernel
theorem dX8_unlike_19 : decode cX8_unlike 19 = .ok (.aload_n 0, 1) := by decide +kernel
theorem dX8_unlike_20 : decode cX8_unlike 20 = .ok (.getfield 35, 3) := by decide +kernel
theorem dX8_unlike_23 : decode cX8_unlike 23 = .ok (.iload_n 3, 1) := by decide +kernel
theorem dX8_unlike_24 : decode cX8_unlike 24 = .ok (.iaload, 1) := by decide +kernel
theorem dX8_unlike_25 : decode cX8_unlike 25 = .ok (.aload_n 0, 1) := by decide +kernel
theorem dX8_unlike_26 : decode cX8_unlike 26 = .ok (.getfield 63, 3) := by decide +kernel
theorem dX8_unlike_29 : decode cX8_unlike 29 = .ok (.bipush 40, 2) := by decide +kernel
theorem dX8_unlike_31 : decode cX8_unlike 31 = .ok (.iload_n 1, 1) := by decide +kernel
theorem dX8_unlike_32 : decode cX8_unlike 32 = .ok (.imul, 1) := by decide +kernel
theorem dX8_unlike_33 : decode cX8_unlike 33 = .ok (.iload_n 3, 1) := by decide +kernel
theorem dX8_unlike_34 : decode cX8_unlike 34 = .ok (.iadd, 1) := by decide +kernel
theorem dX8_unlike_35 : decode cX8_unlike 35 = .ok (.iaload, 1) := by decide +kernel
theorem dX8_unlike_36 : decode cX8_unlike 36 = .ok (.if_icmp .ne 7, 3) := by decide +kernel
theorem dX8_unlike_39 : decode cX8_unlike 39 = .ok (.iconst 0, 1) := by decide +kernel
theorem dX8_unlike_40 : decode cX8_unlike 40 = .ok (.goto 4, 3) := by decide +kernel
theorem dX8_unlike_43 : decode cX8_unlike 43 = .ok (.iconst 1, 1) := by decide +kernel
theorem dX8_unlike_44 : decode cX8_unlike 44 = .ok (.iload_n 3, 1) := by decide +kernel
theorem dX8_unlike_45 : decode cX8_unlike 45 = .ok (.ishl, 1) := by decide +kernel
theorem dX8_unlike_46 : decode cX8_unlike 46 = .ok (.ior, 1) := by decide +kernel
theorem dX8_unlike_47 : decode cX8_unlike 47 = .ok (.istore_n 2, 1) := by decide +kernel
theorem dX8_unlike_48 : decode cX8_unlike 48 = .ok (.iinc 3 1, 3) := by decide +kernel
theorem dX8_unlike_51 : decode cX8_unlike 51 = .ok (.goto (-41), 3) := by decide +kernel
theorem dX8_unlike_54 : decode cX8_unlike 54 = .ok (.iload_n 2, 1) := by decide +kernel
theorem dX8_unlike_55 : decode cX8_unlike 55 = .ok (.ireturn, 1) := by decide +kernel
theorem dX8_tells_0 : decode cX8_tells 0 = .ok (.iload_n 1, 1) := by decide +kernel
theorem dX8_tells_1 : decode cX8_tells 1 = .ok (.invokestatic 270, 3) := by decide +kernel
theorem dX8_tells_4 : decode cX8_tells 4 = .ok (.ifCond .eq 40, 3) := by decide +kernel
theorem dX8_tells_7 : decode cX8_tells 7 = .ok (.iload_n 2, 1) := by decide +kernel
theorem dX8_tells_8 : decode cX8_tells 8 = .ok (.i2l, 1) := by decide +kernel
theorem dX8_tells_9 : decode cX8_tells 9 = .ok (.lconst 0, 1) := by decide +kernel
theorem dX8_tells_10 : decode cX8_tells 10 = .ok (.ldc2_w 304, 3) := by decide +kernel
theorem dX8_tells_13 : decode cX8_tells 13 = .ok (.invokestatic 76, 3) := by decide +kernel
theorem dX8_tells_16 : decode cX8_tells 16 = .ok (.ifCond .ne 31, 3) := by decide +kernel
theorem dX8_tells_19 : decode cX8_tells 19 = .ok (.iload_n 2, 1) := by decide +kernel
theorem dX8_tells_20 : decode cX8_tells 20 = .ok (.i2l, 1) := by decide +kernel
theorem dX8_tells_21 : decode cX8_tells 21 = .ok (.ldc2_w 155, 3) := by decide +kernel
theorem dX8_tells_24 : decode cX8_tells 24 = .ok (.ldc2_w 306, 3) := by decide +kernel
theorem dX8_tells_27 : decode cX8_tells 27 = .ok (.invokestatic 76, 3) := by decide +kernel
theorem dX8_tells_30 : decode cX8_tells 30 = .ok (.ifCond .eq 14, 3) := by decide +kernel
theorem dX8_tells_33 : decode cX8_tells 33 = .ok (.aload_n 0, 1) := by decide +kernel
theorem dX8_tells_34 : decode cX8_tells 34 = .ok (.iload_n 2, 1) := by decide +kernel
theorem dX8_tells_35 : decode cX8_tells 35 = .ok (.bipush 10, 2) := by decide +kernel
theorem dX8_tells_37 : decode cX8_tells 37 = .ok (.irem, 1) := by decide +kernel
theorem dX8_tells_38 : decode cX8_tells 38 = .ok (.invokevirtual 82, 3) := by decide +kernel
theorem dX8_tells_41 : decode cX8_tells 41 = .ok (.ifCond .ne 6, 3) := by decide +kernel
theorem dX8_tells_44 : decode cX8_tells 44 = .ok (.bipush (-2), 2) := by decide +kernel
theorem dX8_tells_46 : decode cX8_tells 46 = .ok (.ireturn, 1) := by decide +kernel
theorem dX8_tells_47 : decode cX8_tells 47 = .ok (.aload_n 0, 1) := by decide +kernel
theorem dX8_tells_48 : decode cX8_tells 48 = .ok (.getfield 53, 3) := by decide +kernel
theorem dX8_tells_51 : decode cX8_tells 51 = .ok (.iload_n 1, 1) := by decide +kernel
theorem dX8_tells_52 : decode cX8_tells 52 = .ok (.baload, 1) := by decide +kernel
theorem dX8_tells_53 : decode cX8_tells 53 = .ok (.ifCond .ne 6, 3) := by decide +kernel
theorem dX8_tells_56 : decode cX8_tells 56 = .ok (.bipush (-11), 2) := by decide +kernel
theorem dX8_tells_58 : decode cX8_tells 58 = .ok (.ireturn, 1) := by decide +kernel
theorem dX8_tells_59 : decode cX8_tells 59 = .ok (.aload_n 0, 1) := by decide +kernel
theorem dX8_tells_60 : decode cX8_tells 60 = .ok (.getfield 60, 3) := by decide +kernel
theorem dX8_tells_63 : decode cX8_tells 63 = .ok (.iload_n 1, 1) := by decide +kernel
theorem dX8_tells_64 : decode cX8_tells 64 = .ok (.iaload, 1) := by decide +kernel
theorem dX8_tells_65 : decode cX8_tells 65 = .ok (.aload_n 0, 1) := by decide +kernel
theorem dX8_tells_66 : decode cX8_tells 66 = .ok (.getfield 73, 3) := by decide +kernel
theorem dX8_tells_69 : decode cX8_tells 69 = .ok (.if_icmp .eq 6, 3) := by decide +kernel
theorem dX8_tells_72 : decode cX8_tells 72 = .ok (.bipush (-2), 2) := by decide +kernel
theorem dX8_tells_74 : decode cX8_tells 74 = .ok (.ireturn, 1) := by decide +kernel
theorem dX8_tells_75 : decode cX8_tells 75 = .ok (.iload_n 2, 1) := by decide +kernel
theorem dX8_tells_76 : decode cX8_tells 76 = .ok (.ifCond .ne 9, 3) := by decide +kernel
theorem dX8_tells_79 : decode cX8_tells 79 = .ok (.aload_n 0, 1) := by decide +kernel
theorem dX8_tells_80 : decode cX8_tells 80 = .ok (.iload_n 1, 1) := by decide +kernel
theorem dX8_tells_81 : decode cX8_tells 81 = .ok (.invokevirtual 308, 3) := by decide +kernel
theorem dX8_tells_84 : decode cX8_tells 84 = .ok (.ireturn, 1) := by decide +kernel
theorem dX8_tells_85 : decode cX8_tells 85 = .ok (.iload_n 2, 1) := by decide +kernel
theorem dX8_tells_86 : decode cX8_tells 86 = .ok (.bipush 10, 2) := by decide +kernel
theorem dX8_tells_88 : decode cX8_tells 88 = .ok (.irem, 1) := by decide +kernel
theorem dX8_tells_89 : decode cX8_tells 89 = .ok (.istore_n 3, 1) := by decide +kernel
theorem dX8_tells_90 : decode cX8_tells 90 = .ok (.iload_n 2, 1) := by decide +kernel
theorem dX8_tells_91 : decode cX8_tells 91 = .ok (.iconst 1, 1) := by decide +kernel
theorem dX8_tells_92 : decode cX8_tells 92 = .ok (.if_icmp .ne 7, 3) := by decide +kernel
theorem dX8_tells_95 : decode cX8_tells 95 = .ok (.iconst 0, 1) := by decide +kernel
theorem dX8_tells_96 : decode cX8_tells 96 = .ok (.goto 34, 3) := by decide +kernel
theorem dX8_tells_99 : decode cX8_tells 99 = .ok (.iload_n 2, 1) := by decide +kernel
theorem dX8_tells_100 : decode cX8_tells 100 = .ok (.iconst 2, 1) := by decide +kernel
theorem dX8_tells_101 : decode cX8_tells 101 = .ok (.if_icmp .ne 8, 3) := by decide +kernel
theorem dX8_tells_104 : decode cX8_tells 104 = .ok (.bipush 6, 2) := by decide +kernel
theorem dX8_tells_106 : decode cX8_tells 106 = .ok (.goto 24, 3) := by decide +kernel
theorem dX8_tells_109 : decode cX8_tells 109 = .ok (.iload_n 2, 1) := by decide +kernel
theorem dX8_tells_110 : decode cX8_tells 110 = .ok (.bipush 20, 2) := by decide +kernel
theorem dX8_tells_112 : decode cX8_tells 112 = .ok (.if_icmp .ge 7, 3) := by decide +kernel
theorem dX8_tells_115 : decode cX8_tells 115 = .ok (.iconst 5, 1) := by decide +kernel
theorem dX8_tells_116 : decode cX8_tells 116 = .ok (.goto 14, 3) := by decide +kernel
theorem dX8_tells_119 : decode cX8_tells 119 = .ok (.iload_n 2, 1) := by decide +kernel
theorem dX8_tells_120 : decode cX8_tells 120 = .ok (.bipush 30, 2) := by decide +kernel
theorem dX8_tells_122 : decode cX8_tells 122 = .ok (.if_icmp .ge 7, 3) := by decide +kernel
theorem dX8_tells_125 : decode cX8_tells 125 = .ok (.iconst 2, 1) := by decide +kernel
theorem dX8_tells_126 : decode cX8_tells 126 = .ok (.goto 4, 3) := by decide +kernel
theorem dX8_tells_129 : decode cX8_tells 129 = .ok (.iconst 3, 1) := by decide +kernel
theorem dX8_tells_130 : decode cX8_tells 130 = .ok (.istore 4, 2) := by decide +kernel
theorem dX8_tells_132 : decode cX8_tells 132 = .ok (.iload 4, 2) := by decide +kernel
theorem dX8_tells_134 : decode cX8_tells 134 = .ok (.bipush 6, 2) := by decide +kernel
theorem dX8_tells_136 : decode cX8_tells 136 = .ok (.if_icmp .ne 10, 3) := by decide +kernel
theorem dX8_tells_139 : decode cX8_tells 139 = .ok (.aload_n 0, 1) := by decide +kernel
theorem dX8_tells_140 : decode cX8_tells 140 = .ok (.getfield 98, 3) := by decide +kernel
theorem dX8_tells_143 : decode cX8_tells 143 = .ok (.goto 43, 3) := by decide +kernel
theorem dX8_tells_146 : decode cX8_tells 146 = .ok (.iload 4, 2) := by decide +kernel
theorem dX8_tells_148 : decode cX8_tells 148 = .ok (.ifCond .ne 10, 3) := by decide +kernel
theorem dX8_tells_151 : decode cX8_tells 151 = .ok (.aload_n 0, 1) := by decide +kernel
theorem dX8_tells_152 : decode cX8_tells 152 = .ok (.getfield 23, 3) := by decide +kernel
theorem dX8_tells_155 : decode cX8_tells 155 = .ok (.goto 31, 3) := by decide +kernel
theorem dX8_tells_158 : decode cX8_tells 158 = .ok (.iload 4, 2) := by decide +kernel
theorem dX8_tells_160 : decode cX8_tells 160 = .ok (.iconst 5, 1) := by decide +kernel
theorem dX8_tells_161 : decode cX8_tells 161 = .ok (.if_icmp .ne 12, 3) := by decide +kernel
theorem dX8_tells_164 : decode cX8_tells 164 = .ok (.aload_n 0, 1) := by decide +kernel
theorem dX8_tells_165 : decode cX8_tells 165 = .ok (.getfield 29, 3) := by decide +kernel
theorem dX8_tells_168 : decode cX8_tells 168 = .ok (.iload_n 3, 1) := by decide +kernel
theorem dX8_tells_169 : decode cX8_tells 169 = .ok (.iaload, 1) := by decide +kernel
theorem dX8_tells_170 : decode cX8_tells 170 = .ok (.goto 16, 3) := by decide +kernel
theorem dX8_tells_173 : decode cX8_tells 173 = .ok (.aload_n 0, 1) := by decide +kernel
theorem dX8_tells_174 : decode cX8_tells 174 = .ok (.getfield 32, 3) := by decide +kernel
theorem dX8_tells_177 : decode cX8_tells 177 = .ok (.iconst 3, 1) := by decide +kernel
theorem dX8_tells_178 : decode cX8_tells 178 = .ok (.iload_n 3, 1) := by decide +kernel
theorem dX8_tells_179 : decode cX8_tells 179 = .ok (.imul, 1) := by decide +kernel
theorem dX8_tells_180 : decode cX8_tells 180 = .ok (.iload 4, 2) := by decide +kernel
theorem dX8_tells_182 : decode cX8_tells 182 = .ok (.iadd, 1) := by decide +kernel
theorem dX8_tells_183 : decode cX8_tells 183 = .ok (.iconst 2, 1) := by decide +kernel
theorem dX8_tells_184 : decode cX8_tells 184 = .ok (.isub, 1) := by decide +kernel
theorem dX8_tells_185 : decode cX8_tells 185 = .ok (.iaload, 1) := by decide +kernel
theorem dX8_tells_186 : decode cX8_tells 186 = .ok (.istore 5, 2) := by decide +kernel
theorem dX8_tells_188 : decode cX8_tells 188 = .ok (.iload 4, 2) := by decide +kernel
theorem dX8_tells_190 : decode cX8_tells 190 = .ok (.bipush 6, 2) := by decide +kernel
theorem dX8_tells_192 : decode cX8_tells 192 = .ok (.if_icmp .ne 12, 3) := by decide +kernel
theorem dX8_tells_195 : decode cX8_tells 195 = .ok (.aload_n 0, 1) := by decide +kernel
theorem dX8_tells_196 : decode cX8_tells 196 = .ok (.getfield 70, 3) := by decide +kernel
theorem dX8_tells_199 : decode cX8_tells 199 = .ok (.iconst 1, 1) := by decide +kernel
theorem dX8_tells_200 : decode cX8_tells 200 = .ok (.isub, 1) := by decide +kernel
theorem dX8_tells_201 : decode cX8_tells 201 = .ok (.goto 18, 3) := by decide +kernel
theorem dX8_tells_204 : decode cX8_tells 204 = .ok (.iload 4, 2) := by decide +kernel
theorem dX8_tells_206 : decode cX8_tells 206 = .ok (.iconst 5, 1) := by decide +kernel
theorem dX8_tells_207 : decode cX8_tells 207 = .ok (.if_icmp .ne 7, 3) := by decide +kernel
theorem dX8_tells_210 : decode cX8_tells 210 = .ok (.iconst 5, 1) := by decide +kernel
theorem dX8_tells_211 : decode cX8_tells 211 = .ok (.goto 8, 3) := by decide +kernel
theorem dX8_tells_214 : decode cX8_tells 214 = .ok (.iload 4, 2) := by decide +kernel
theorem dX8_tells_216 : decode cX8_tells 216 = .ok (.invokestatic 86, 3) := by decide +kernel
theorem dX8_tells_219 : decode cX8_tells 219 = .ok (.istore 6, 2) := by decide +kernel
theorem dX8_tells_221 : decode cX8_tells 221 = .ok (.iconst 0, 1) := by decide +kernel
theorem dX8_tells_222 : decode cX8_tells 222 = .ok (.istore 7, 2) := by decide +kernel
theorem dX8_tells_224 : decode cX8_tells 224 = .ok (.iconst 0, 1) := by decide +kernel
theorem dX8_tells_225 : decode cX8_tells 225 = .ok (.istore 8, 2) := by decide +kernel
theorem dX8_tells_227 : decode cX8_tells 227 = .ok (.iconst (-1), 1) := by decide +kernel
theorem dX8_tells_228 : decode cX8_tells 228 = .ok (.istore 9, 2) := by decide +kernel
theorem dX8_tells_230 : decode cX8_tells 230 = .ok (.iconst 0, 1) := by decide +kernel
theorem dX8_tells_231 : decode cX8_tells 231 = .ok (.istore 10, 2) := by decide +kernel
theorem dX8_tells_233 : decode cX8_tells 233 = .ok (.iload 10, 2) := by decide +kernel
theorem dX8_tells_235 : decode cX8_tells 235 = .ok (.iload 6, 2) := by decide +kernel
theorem dX8_tells_237 : decode cX8_tells 237 = .ok (.if_icmp .gt 63, 3) := by decide +kernel
theorem dX8_tells_240 : decode cX8_tells 240 = .ok (.aload_n 0, 1) := by decide +kernel
theorem dX8_tells_241 : decode cX8_tells 241 = .ok (.iload 4, 2) := by decide +kernel
theorem dX8_tells_243 : decode cX8_tells 243 = .ok (.iload_n 3, 1) := by decide +kernel
theorem dX8_tells_244 : decode cX8_tells 244 = .ok (.iload 10, 2) := by decide +kernel
theorem dX8_tells_246 : decode cX8_tells 246 = .ok (.invokevirtual 94, 3) := by decide +kernel
theorem dX8_tells_249 : decode cX8_tells 249 = .ok (.aload_n 0, 1) := by decide +kernel
theorem dX8_tells_250 : decode cX8_tells 250 = .ok (.iload_n 1, 1) := by decide +kernel
theorem dX8_tells_251 : decode cX8_tells 251 = .ok (.invokevirtual 308, 3) := by decide +kernel
theorem dX8_tells_254 : decode cX8_tells 254 = .ok (.ifCond .ne 40, 3) := by decide +kernel
theorem dX8_tells_257 : decode cX8_tells 257 = .ok (.iload 7, 2) := by decide +kernel
theorem dX8_tells_259 : decode cX8_tells 259 = .ok (.iload_n 2, 1) := by decide +kernel
theorem dX8_tells_260 : decode cX8_tells 260 = .ok (.bipush 30, 2) := by decide +kernel
theorem dX8_tells_262 : decode cX8_tells 262 = .ok (.if_icmp .ge 10, 3) := by decide +kernel
theorem dX8_tells_265 : decode cX8_tells 265 = .ok (.iconst 1, 1) := by decide +kernel
theorem dX8_tells_266 : decode cX8_tells 266 = .ok (.iload 10, 2) := by decide +kernel
theorem dX8_tells_268 : decode cX8_tells 268 = .ok (.ishl, 1) := by decide +kernel
theorem dX8_tells_269 : decode cX8_tells 269 = .ok (.goto 4, 3) := by decide +kernel
theorem dX8_tells_272 : decode cX8_tells 272 = .ok (.iconst 0, 1) := by decide +kernel
theorem dX8_tells_273 : decode cX8_tells 273 = .ok (.ior, 1) := by decide +kernel
theorem dX8_tells_274 : decode cX8_tells 274 = .ok (.istore 7, 2) := by decide +kernel
theorem dX8_tells_276 : decode cX8_tells 276 = .ok (.iinc 8 1, 3) := by decide +kernel
theorem dX8_tells_279 : decode cX8_tells 279 = .ok (.iload 9, 2) := by decide +kernel
theorem dX8_tells_281 : decode cX8_tells 281 = .ok (.iconst (-1), 1) := by decide +kernel
theorem dX8_tells_282 : decode cX8_tells 282 = .ok (.if_icmp .ne 8, 3) := by decide +kernel
theorem dX8_tells_285 : decode cX8_tells 285 = .ok (.iload 10, 2) := by decide +kernel
theorem dX8_tells_287 : decode cX8_tells 287 = .ok (.goto 5, 3) := by decide +kernel
theorem dX8_tells_290 : decode cX8_tells 290 = .ok (.iload 9, 2) := by decide +kernel
theorem dX8_tells_292 : decode cX8_tells 292 = .ok (.istore 9, 2) := by decide +kernel
theorem dX8_tells_294 : decode cX8_tells 294 = .ok (.iinc 10 1, 3) := by decide +kernel
theorem dX8_tells_297 : decode cX8_tells 297 = .ok (.goto (-64), 3) := by decide +kernel
theorem dX8_tells_300 : decode cX8_tells 300 = .ok (.aload_n 0, 1) := by decide +kernel
theorem dX8_tells_301 : decode cX8_tells 301 = .ok (.iload 4, 2) := by decide +kernel
theorem dX8_tells_303 : decode cX8_tells 303 = .ok (.iload_n 3, 1) := by decide +kernel
theorem dX8_tells_304 : decode cX8_tells 304 = .ok (.iload 5, 2) := by decide +kernel
theorem dX8_tells_306 : decode cX8_tells 306 = .ok (.invokevirtual 94, 3) := by decide +kernel
theorem dX8_tells_309 : decode cX8_tells 309 = .ok (.iload_n 2, 1) := by decide +kernel
theorem dX8_tells_310 : decode cX8_tells 310 = .ok (.bipush 30, 2) := by decide +kernel
theorem dX8_tells_312 : decode cX8_tells 312 = .ok (.if_icmp .ge 8, 3) := by decide +kernel
theorem dX8_tells_315 : decode cX8_tells 315 = .ok (.iload 7, 2) := by decide +kernel
theorem dX8_tells_317 : decode cX8_tells 317 = .ok (.goto 16, 3) := by decide +kernel
theorem dX8_tells_320 : decode cX8_tells 320 = .ok (.iload_n 2, 1) := by decide +kernel
theorem dX8_tells_321 : decode cX8_tells 321 = .ok (.bipush 40, 2) := by decide +kernel
theorem dX8_tells_323 : decode cX8_tells 323 = .ok (.if_icmp .ge 8, 3) := by decide +kernel
theorem dX8_tells_326 : decode cX8_tells 326 = .ok (.iload 8, 2) := by decide +kernel
theorem dX8_tells_328 : decode cX8_tells 328 = .ok (.goto 5, 3) := by decide +kernel
theorem dX8_tells_331 : decode cX8_tells 331 = .ok (.iload 9, 2) := by decide +kernel
theorem dX8_tells_333 : decode cX8_tells 333 = .ok (.ireturn, 1) := by decide +kernel
theorem dX8_film_0 : decode cX8_film 0 = .ok (.iload_n 1, 1) := by decide +kernel
theorem dX8_film_1 : decode cX8_film 1 = .ok (.invokestatic 270, 3) := by decide +kernel
theorem dX8_film_4 : decode cX8_film 4 = .ok (.ifCond .ne 6, 3) := by decide +kernel
theorem dX8_film_7 : decode cX8_film 7 = .ok (.bipush (-2), 2) := by decide +kernel
theorem dX8_film_9 : decode cX8_film 9 = .ok (.ireturn, 1) := by decide +kernel
theorem dX8_film_10 : decode cX8_film 10 = .ok (.aload_n 0, 1) := by decide +kernel
theorem dX8_film_11 : decode cX8_film 11 = .ok (.iconst (-1), 1) := by decide +kernel
theorem dX8_film_12 : decode cX8_film 12 = .ok (.invokevirtual 264, 3) := by decide +kernel
theorem dX8_film_15 : decode cX8_film 15 = .ok (.pop, 1) := by decide +kernel
theorem dX8_film_16 : decode cX8_film 16 = .ok (.aload_n 0, 1) := by decide +kernel
theorem dX8_film_17 : decode cX8_film 17 = .ok (.iload_n 1, 1) := by decide +kernel
theorem dX8_film_18 : decode cX8_film 18 = .ok (.iconst 0, 1) := by decide +kernel
theorem dX8_film_19 : decode cX8_film 19 = .ok (.aload_n 0, 1) := by decide +kernel
theorem dX8_film_20 : decode cX8_film 20 = .ok (.getfield 73, 3) := by decide +kernel
theorem dX8_film_23 : decode cX8_film 23 = .ok (.invokevirtual 311, 3) := by decide +kernel
theorem dX8_film_26 : decode cX8_film 26 = .ok (.pop, 1) := by decide +kernel
theorem dX8_film_27 : decode cX8_film 27 = .ok (.iconst 0, 1) := by decide +kernel
theorem dX8_film_28 : decode cX8_film 28 = .ok (.istore_n 2, 1) := by decide +kernel
theorem dX8_film_29 : decode cX8_film 29 = .ok (.iload_n 2, 1) := by decide +kernel
theorem dX8_film_30 : decode cX8_film 30 = .ok (.aload_n 0, 1) := by decide +kernel
theorem dX8_film_31 : decode cX8_film 31 = .ok (.getfield 73, 3) := by decide +kernel
theorem dX8_film_34 : decode cX8_film 34 = .ok (.if_icmp .ge 26, 3) := by decide +kernel
theorem dX8_film_37 : decode cX8_film 37 = .ok (.aload_n 0, 1) := by decide +kernel
theorem dX8_film_38 : decode cX8_film 38 = .ok (.getfield 63, 3) := by decide +kernel
theorem dX8_film_41 : decode cX8_film 41 = .ok (.bipush 40, 2) := by decide +kernel
theorem dX8_film_43 : decode cX8_film 43 = .ok (.iload_n 1, 1) := by decide +kernel
theorem dX8_film_44 : decode cX8_film 44 = .ok (.imul, 1) := by decide +kernel
theorem dX8_film_45 : decode cX8_film 45 = .ok (.iload_n 2, 1) := by decide +kernel
theorem dX8_film_46 : decode cX8_film 46 = .ok (.iadd, 1) := by decide +kernel
theorem dX8_film_47 : decode cX8_film 47 = .ok (.aload_n 0, 1) := by decide +kernel
theorem dX8_film_48 : decode cX8_film 48 = .ok (.getfield 35, 3) := by decide +kernel
theorem dX8_film_51 : decode cX8_film 51 = .ok (.iload_n 2, 1) := by decide +kernel
theorem dX8_film_52 : decode cX8_film 52 = .ok (.iaload, 1) := by decide +kernel
theorem dX8_film_53 : decode cX8_film 53 = .ok (.iastore, 1) := by decide +kernel
theorem dX8_film_54 : decode cX8_film 54 = .ok (.iinc 2 1, 3) := by decide +kernel
theorem dX8_film_57 : decode cX8_film 57 = .ok (.goto (-28), 3) := by decide +kernel
theorem dX8_film_60 : decode cX8_film 60 = .ok (.aload_n 0, 1) := by decide +kernel
theorem dX8_film_61 : decode cX8_film 61 = .ok (.getfield 73, 3) := by decide +kernel
theorem dX8_film_64 : decode cX8_film 64 = .ok (.ireturn, 1) := by decide +kernel
theorem dX8_draws_0 : decode cX8_draws 0 = .ok (.iload_n 1, 1) := by decide +kernel
theorem dX8_draws_1 : decode cX8_draws 1 = .ok (.istore_n 2, 1) := by decide +kernel
theorem dX8_draws_2 : decode cX8_draws 2 = .ok (.iconst 0, 1) := by decide +kernel
theorem dX8_draws_3 : decode cX8_draws 3 = .ok (.istore_n 3, 1) := by decide +kernel
theorem dX8_draws_4 : decode cX8_draws 4 = .ok (.iload_n 3, 1) := by decide +kernel
theorem dX8_draws_5 : decode cX8_draws 5 = .ok (.aload_n 0, 1) := by decide +kernel
theorem dX8_draws_6 : decode cX8_draws 6 = .ok (.getfield 73, 3) := by decide +kernel
theorem dX8_draws_9 : decode cX8_draws 9 = .ok (.if_icmp .ge 52, 3) := by decide +kernel
theorem dX8_draws_12 : decode cX8_draws 12 = .ok (.aload_n 0, 1) := by decide +kernel
theorem dX8_draws_13 : decode cX8_draws 13 = .ok (.getfield 44, 3) := by decide +kernel
theorem dX8_draws_16 : decode cX8_draws 16 = .ok (.iload_n 3, 1) := by decide +kernel
theorem dX8_draws_17 : decode cX8_draws 17 = .ok (.aload_n 0, 1) := by decide +kernel
theorem dX8_draws_18 : decode cX8_draws 18 = .ok (.getfield 32, 3) := by decide +kernel
theorem dX8_draws_21 : decode cX8_draws 21 = .ok (.iconst 3, 1) := by decide +kernel
theorem dX8_draws_22 : decode cX8_draws 22 = .ok (.iload_n 3, 1) := by decide +kernel
theorem dX8_draws_23 : decode cX8_draws 23 = .ok (.imul, 1) := by decide +kernel
theorem dX8_draws_24 : decode cX8_draws 24 = .ok (.iconst 1, 1) := by decide +kernel
theorem dX8_draws_25 : decode cX8_draws 25 = .ok (.iadd, 1) := by decide +kernel
theorem dX8_draws_26 : decode cX8_draws 26 = .ok (.iaload, 1) := by decide +kernel
theorem dX8_draws_27 : decode cX8_draws 27 = .ok (.iastore, 1) := by decide +kernel
theorem dX8_draws_28 : decode cX8_draws 28 = .ok (.iload_n 2, 1) := by decide +kernel
theorem dX8_draws_29 : decode cX8_draws 29 = .ok (.ldc_w 314, 3) := by decide +kernel
theorem dX8_draws_32 : decode cX8_draws 32 = .ok (.imul, 1) := by decide +kernel
theorem dX8_draws_33 : decode cX8_draws 33 = .ok (.sipush 12345, 3) := by decide +kernel
theorem dX8_draws_36 : decode cX8_draws 36 = .ok (.iadd, 1) := by decide +kernel
theorem dX8_draws_37 : decode cX8_draws 37 = .ok (.istore_n 2, 1) := by decide +kernel
theorem dX8_draws_38 : decode cX8_draws 38 = .ok (.aload_n 0, 1) := by decide +kernel
theorem dX8_draws_39 : decode cX8_draws 39 = .ok (.getfield 32, 3) := by decide +kernel
theorem dX8_draws_42 : decode cX8_draws 42 = .ok (.iconst 3, 1) := by decide +kernel
theorem dX8_draws_43 : decode cX8_draws 43 = .ok (.iload_n 3, 1) := by decide +kernel
theorem dX8_draws_44 : decode cX8_draws 44 = .ok (.imul, 1) := by decide +kernel
theorem dX8_draws_45 : decode cX8_draws 45 = .ok (.iconst 1, 1) := by decide +kernel
theorem dX8_draws_46 : decode cX8_draws 46 = .ok (.iadd, 1) := by decide +kernel
theorem dX8_draws_47 : decode cX8_draws 47 = .ok (.iload_n 2, 1) := by decide +kernel
theorem dX8_draws_48 : decode cX8_draws 48 = .ok (.bipush 9, 2) := by decide +kernel
theorem dX8_draws_50 : decode cX8_draws 50 = .ok (.iushr, 1) := by decide +kernel
theorem dX8_draws_51 : decode cX8_draws 51 = .ok (.bipush 100, 2) := by decide +kernel
theorem dX8_draws_53 : decode cX8_draws 53 = .ok (.irem, 1) := by decide +kernel
theorem dX8_draws_54 : decode cX8_draws 54 = .ok (.iastore, 1) := by decide +kernel
theorem dX8_draws_55 : decode cX8_draws 55 = .ok (.iinc 3 1, 3) := by decide +kernel
theorem dX8_draws_58 : decode cX8_draws 58 = .ok (.goto (-54), 3) := by decide +kernel
theorem dX8_draws_61 : decode cX8_draws 61 = .ok (.return_, 1) := by decide +kernel
theorem dX8_laysBack_0 : decode cX8_laysBack 0 = .ok (.iconst 0, 1) := by decide +kernel
theorem dX8_laysBack_1 : decode cX8_laysBack 1 = .ok (.istore_n 1, 1) := by decide +kernel
theorem dX8_laysBack_2 : decode cX8_laysBack 2 = .ok (.iload_n 1, 1) := by decide +kernel
theorem dX8_laysBack_3 : decode cX8_laysBack 3 = .ok (.aload_n 0, 1) := by decide +kernel
theorem dX8_laysBack_4 : decode cX8_laysBack 4 = .ok (.getfield 73, 3) := by decide +kernel
theorem dX8_laysBack_7 : decode cX8_laysBack 7 = .ok (.if_icmp .ge 25, 3) := by decide +kernel
theorem dX8_laysBack_10 : decode cX8_laysBack 10 = .ok (.aload_n 0, 1) := by decide +kernel
theorem dX8_laysBack_11 : decode cX8_laysBack 11 = .ok (.getfield 32, 3) := by decide +kernel
theorem dX8_laysBack_14 : decode cX8_laysBack 14 = .ok (.iconst 3, 1) := by decide +kernel
theorem dX8_laysBack_15 : decode cX8_laysBack 15 = .ok (.iload_n 1, 1) := by decide +kernel
theorem dX8_laysBack_16 : decode cX8_laysBack 16 = .ok (.imul, 1) := by decide +kernel
theorem dX8_laysBack_17 : decode cX8_laysBack 17 = .ok (.iconst 1, 1) := by decide +kernel
theorem dX8_laysBack_18 : decode cX8_laysBack 18 = .ok (.iadd, 1) := by decide +kernel
theorem dX8_laysBack_19 : decode cX8_laysBack 19 = .ok (.aload_n 0, 1) := by decide +kernel
theorem dX8_laysBack_20 : decode cX8_laysBack 20 = .ok (.getfield 44, 3) := by decide +kernel
theorem dX8_laysBack_23 : decode cX8_laysBack 23 = .ok (.iload_n 1, 1) := by decide +kernel
theorem dX8_laysBack_24 : decode cX8_laysBack 24 = .ok (.iaload, 1) := by decide +kernel
theorem dX8_laysBack_25 : decode cX8_laysBack 25 = .ok (.iastore, 1) := by decide +kernel
theorem dX8_laysBack_26 : decode cX8_laysBack 26 = .ok (.iinc 1 1, 3) := by decide +kernel
theorem dX8_laysBack_29 : decode cX8_laysBack 29 = .ok (.goto (-27), 3) := by decide +kernel
theorem dX8_laysBack_32 : decode cX8_laysBack 32 = .ok (.return_, 1) := by decide +kernel
theorem dX8_drawn_0 : decode cX8_drawn 0 = .ok (.aload_n 0, 1) := by decide +kernel
theorem dX8_drawn_1 : decode cX8_drawn 1 = .ok (.iload_n 1, 1) := by decide +kernel
theorem dX8_drawn_2 : decode cX8_drawn 2 = .ok (.invokevirtual 315, 3) := by decide +kernel
theorem dX8_drawn_5 : decode cX8_drawn 5 = .ok (.aload_n 0, 1) := by decide +kernel
theorem dX8_drawn_6 : decode cX8_drawn 6 = .ok (.iconst (-1), 1) := by decide +kernel
theorem dX8_drawn_7 : decode cX8_drawn 7 = .ok (.invokevirtual 264, 3) := by decide +kernel
theorem dX8_drawn_10 : decode cX8_drawn 10 = .ok (.istore_n 2, 1) := by decide +kernel
theorem dX8_drawn_11 : decode cX8_drawn 11 = .ok (.aload_n 0, 1) := by decide +kernel
theorem dX8_drawn_12 : decode cX8_drawn 12 = .ok (.invokevirtual 318, 3) := by decide +kernel
theorem dX8_drawn_15 : decode cX8_drawn 15 = .ok (.iload_n 2, 1) := by decide +kernel
theorem dX8_drawn_16 : decode cX8_drawn 16 = .ok (.ireturn, 1) := by decide +kernel
theorem dX8_chance_0 : decode cX8_chance 0 = .ok (.iload_n 2, 1) := by decide +kernel
theorem dX8_chance_1 : decode cX8_chance 1 = .ok (.i2l, 1) := by decide +kernel
theorem dX8_chance_2 : decode cX8_chance 2 = .ok (.lconst 1, 1) := by decide +kernel
theorem dX8_chance_3 : decode cX8_chance 3 = .ok (.ldc2_w 321, 3) := by decide +kernel
theorem dX8_chance_6 : decode cX8_chance 6 = .ok (.invokestatic 76, 3) := by decide +kernel
theorem dX8_chance_9 : decode cX8_chance 9 = .ok (.ifCond .eq 13, 3) := by decide +kernel
theorem dX8_chance_12 : decode cX8_chance 12 = .ok (.iload_n 3, 1) := by decide +kernel
theorem dX8_chance_13 : decode cX8_chance 13 = .ok (.i2l, 1) := by decide +kernel
theorem dX8_chance_14 : decode cX8_chance 14 = .ok (.lconst 0, 1) := by decide +kernel
theorem dX8_chance_15 : decode cX8_chance 15 = .ok (.lconst 1, 1) := by decide +kernel
theorem dX8_chance_16 : decode cX8_chance 16 = .ok (.invokestatic 76, 3) := by decide +kernel
theorem dX8_chance_19 : decode cX8_chance 19 = .ok (.ifCond .ne 7, 3) := by decide +kernel
theorem dX8_chance_22 : decode cX8_chance 22 = .ok (.ldc2_w 323, 3) := by decide +kernel
theorem dX8_chance_25 : decode cX8_chance 25 = .ok (.lreturn, 1) := by decide +kernel
theorem dX8_chance_26 : decode cX8_chance 26 = .ok (.lconst 0, 1) := by decide +kernel
theorem dX8_chance_27 : decode cX8_chance 27 = .ok (.lstore 4, 2) := by decide +kernel
theorem dX8_chance_29 : decode cX8_chance 29 = .ok (.iconst 0, 1) := by decide +kernel
theorem dX8_chance_30 : decode cX8_chance 30 = .ok (.istore 6, 2) := by decide +kernel
theorem dX8_chance_32 : decode cX8_chance 32 = .ok (.iload 6, 2) := by decide +kernel
theorem dX8_chance_34 : decode cX8_chance 34 = .ok (.iload_n 2, 1) := by decide +kernel
theorem dX8_chance_35 : decode cX8_chance 35 = .ok (.if_icmp .ge 43, 3) := by decide +kernel
theorem dX8_chance_38 : decode cX8_chance 38 = .ok (.aload_n 0, 1) := by decide +kernel
theorem dX8_chance_39 : decode cX8_chance 39 = .ok (.iload_n 1, 1) := by decide +kernel
theorem dX8_chance_40 : decode cX8_chance 40 = .ok (.iload 6, 2) := by decide +kernel
theorem dX8_chance_42 : decode cX8_chance 42 = .ok (.iadd, 1) := by decide +kernel
theorem dX8_chance_43 : decode cX8_chance 43 = .ok (.invokevirtual 315, 3) := by decide +kernel
theorem dX8_chance_46 : decode cX8_chance 46 = .ok (.lload 4, 2) := by decide +kernel
theorem dX8_chance_48 : decode cX8_chance 48 = .ok (.aload_n 0, 1) := by decide +kernel
theorem dX8_chance_49 : decode cX8_chance 49 = .ok (.invokevirtual 291, 3) := by decide +kernel
theorem dX8_chance_52 : decode cX8_chance 52 = .ok (.aload_n 0, 1) := by decide +kernel
theorem dX8_chance_53 : decode cX8_chance 53 = .ok (.iconst (-1), 1) := by decide +kernel
theorem dX8_chance_54 : decode cX8_chance 54 = .ok (.invokevirtual 264, 3) := by decide +kernel
theorem dX8_chance_57 : decode cX8_chance 57 = .ok (.if_icmp .gt 7, 3) := by decide +kernel
theorem dX8_chance_60 : decode cX8_chance 60 = .ok (.lconst 1, 1) := by decide +kernel
theorem dX8_chance_61 : decode cX8_chance 61 = .ok (.goto 4, 3) := by decide +kernel
theorem dX8_chance_64 : decode cX8_chance 64 = .ok (.lconst 0, 1) := by decide +kernel
theorem dX8_chance_65 : decode cX8_chance 65 = .ok (.ladd, 1) := by decide +kernel
theorem dX8_chance_66 : decode cX8_chance 66 = .ok (.lstore 4, 2) := by decide +kernel
theorem dX8_chance_68 : decode cX8_chance 68 = .ok (.aload_n 0, 1) := by decide +kernel
theorem dX8_chance_69 : decode cX8_chance 69 = .ok (.invokevirtual 318, 3) := by decide +kernel
theorem dX8_chance_72 : decode cX8_chance 72 = .ok (.iinc 6 1, 3) := by decide +kernel
theorem dX8_chance_75 : decode cX8_chance 75 = .ok (.goto (-43), 3) := by decide +kernel
theorem dX8_chance_78 : decode cX8_chance 78 = .ok (.lload 4, 2) := by decide +kernel
theorem dX8_chance_80 : decode cX8_chance 80 = .ok (.lstore 6, 2) := by decide +kernel
theorem dX8_chance_82 : decode cX8_chance 82 = .ok (.iload_n 2, 1) := by decide +kernel
theorem dX8_chance_83 : decode cX8_chance 83 = .ok (.i2l, 1) := by decide +kernel
theorem dX8_chance_84 : decode cX8_chance 84 = .ok (.lstore 8, 2) := by decide +kernel
theorem dX8_chance_86 : decode cX8_chance 86 = .ok (.lload 8, 2) := by decide +kernel
theorem dX8_chance_88 : decode cX8_chance 88 = .ok (.lconst 0, 1) := by decide +kernel
theorem dX8_chance_89 : decode cX8_chance 89 = .ok (.lcmp, 1) := by decide +kernel
theorem dX8_chance_90 : decode cX8_chance 90 = .ok (.ifCond .eq 21, 3) := by decide +kernel
theorem dX8_chance_93 : decode cX8_chance 93 = .ok (.lload 6, 2) := by decide +kernel
theorem dX8_chance_95 : decode cX8_chance 95 = .ok (.lload 8, 2) := by decide +kernel
theorem dX8_chance_97 : decode cX8_chance 97 = .ok (.lrem, 1) := by decide +kernel
theorem dX8_chance_98 : decode cX8_chance 98 = .ok (.lstore 10, 2) := by decide +kernel
theorem dX8_chance_100 : decode cX8_chance 100 = .ok (.lload 8, 2) := by decide +kernel
theorem dX8_chance_102 : decode cX8_chance 102 = .ok (.lstore 6, 2) := by decide +kernel
theorem dX8_chance_104 : decode cX8_chance 104 = .ok (.lload 10, 2) := by decide +kernel
theorem dX8_chance_106 : decode cX8_chance 106 = .ok (.lstore 8, 2) := by decide +kernel
theorem dX8_chance_108 : decode cX8_chance 108 = .ok (.goto (-22), 3) := by decide +kernel
theorem dX8_chance_111 : decode cX8_chance 111 = .ok (.iload_n 3, 1) := by decide +kernel
theorem dX8_chance_112 : decode cX8_chance 112 = .ok (.ifCond .ne 11, 3) := by decide +kernel
theorem dX8_chance_115 : decode cX8_chance 115 = .ok (.lload 4, 2) := by decide +kernel
theorem dX8_chance_117 : decode cX8_chance 117 = .ok (.lload 6, 2) := by decide +kernel
theorem dX8_chance_119 : decode cX8_chance 119 = .ok (.ldiv, 1) := by decide +kernel
theorem dX8_chance_120 : decode cX8_chance 120 = .ok (.goto 8, 3) := by decide +kernel
theorem dX8_chance_123 : decode cX8_chance 123 = .ok (.iload_n 2, 1) := by decide +kernel
theorem dX8_chance_124 : decode cX8_chance 124 = .ok (.i2l, 1) := by decide +kernel
theorem dX8_chance_125 : decode cX8_chance 125 = .ok (.lload 6, 2) := by decide +kernel
theorem dX8_chance_127 : decode cX8_chance 127 = .ok (.ldiv, 1) := by decide +kernel
theorem dX8_chance_128 : decode cX8_chance 128 = .ok (.lreturn, 1) := by decide +kernel
theorem dX8_image_0 : decode cX8_image 0 = .ok (.iconst 0, 1) := by decide +kernel
theorem dX8_image_1 : decode cX8_image 1 = .ok (.istore_n 1, 1) := by decide +kernel
theorem dX8_image_2 : decode cX8_image 2 = .ok (.iload_n 1, 1) := by decide +kernel
theorem dX8_image_3 : decode cX8_image 3 = .ok (.bipush 21, 2) := by decide +kernel
theorem dX8_image_5 : decode cX8_image 5 = .ok (.if_icmp .ge 21, 3) := by decide +kernel
theorem dX8_image_8 : decode cX8_image 8 = .ok (.aload_n 0, 1) := by decide +kernel
theorem dX8_image_9 : decode cX8_image 9 = .ok (.getfield 47, 3) := by decide +kernel
theorem dX8_image_12 : decode cX8_image 12 = .ok (.iload_n 1, 1) := by decide +kernel
theorem dX8_image_13 : decode cX8_image 13 = .ok (.aload_n 0, 1) := by decide +kernel
theorem dX8_image_14 : decode cX8_image 14 = .ok (.getfield 32, 3) := by decide +kernel
theorem dX8_image_17 : decode cX8_image 17 = .ok (.iload_n 1, 1) := by decide +kernel
theorem dX8_image_18 : decode cX8_image 18 = .ok (.iaload, 1) := by decide +kernel
theorem dX8_image_19 : decode cX8_image 19 = .ok (.iastore, 1) := by decide +kernel
theorem dX8_image_20 : decode cX8_image 20 = .ok (.iinc 1 1, 3) := by decide +kernel
theorem dX8_image_23 : decode cX8_image 23 = .ok (.goto (-21), 3) := by decide +kernel
theorem dX8_image_26 : decode cX8_image 26 = .ok (.aload_n 0, 1) := by decide +kernel
theorem dX8_image_27 : decode cX8_image 27 = .ok (.aload_n 0, 1) := by decide +kernel
theorem dX8_image_28 : decode cX8_image 28 = .ok (.getfield 73, 3) := by decide +kernel
theorem dX8_image_31 : decode cX8_image 31 = .ok (.putfield 50, 3) := by decide +kernel
theorem dX8_image_34 : decode cX8_image 34 = .ok (.aload_n 0, 1) := by decide +kernel
theorem dX8_image_35 : decode cX8_image 35 = .ok (.aload_n 0, 1) := by decide +kernel
theorem dX8_image_36 : decode cX8_image 36 = .ok (.getfield 23, 3) := by decide +kernel
theorem dX8_image_39 : decode cX8_image 39 = .ok (.putfield 325, 3) := by decide +kernel
theorem dX8_image_42 : decode cX8_image 42 = .ok (.aload_n 0, 1) := by decide +kernel
theorem dX8_image_43 : decode cX8_image 43 = .ok (.aload_n 0, 1) := by decide +kernel
theorem dX8_image_44 : decode cX8_image 44 = .ok (.getfield 26, 3) := by decide +kernel
theorem dX8_image_47 : decode cX8_image 47 = .ok (.putfield 328, 3) := by decide +kernel
theorem dX8_image_50 : decode cX8_image 50 = .ok (.aload_n 0, 1) := by decide +kernel
theorem dX8_image_51 : decode cX8_image 51 = .ok (.aload_n 0, 1) := by decide +kernel
theorem dX8_image_52 : decode cX8_image 52 = .ok (.getfield 98, 3) := by decide +kernel
theorem dX8_image_55 : decode cX8_image 55 = .ok (.putfield 331, 3) := by decide +kernel
theorem dX8_image_58 : decode cX8_image 58 = .ok (.aload_n 0, 1) := by decide +kernel
theorem dX8_image_59 : decode cX8_image 59 = .ok (.getfield 73, 3) := by decide +kernel
theorem dX8_image_62 : decode cX8_image 62 = .ok (.ireturn, 1) := by decide +kernel
theorem dX8_back_0 : decode cX8_back 0 = .ok (.aload_n 0, 1) := by decide +kernel
theorem dX8_back_1 : decode cX8_back 1 = .ok (.getfield 50, 3) := by decide +kernel
theorem dX8_back_4 : decode cX8_back 4 = .ok (.iconst (-1), 1) := by decide +kernel
theorem dX8_back_5 : decode cX8_back 5 = .ok (.if_icmp .ne 6, 3) := by decide +kernel
theorem dX8_back_8 : decode cX8_back 8 = .ok (.bipush (-3), 2) := by decide +kernel
theorem dX8_back_10 : decode cX8_back 10 = .ok (.ireturn, 1) := by decide +kernel
theorem dX8_back_11 : decode cX8_back 11 = .ok (.iconst 0, 1) := by decide +kernel
theorem dX8_back_12 : decode cX8_back 12 = .ok (.istore_n 1, 1) := by decide +kernel
theorem dX8_back_13 : decode cX8_back 13 = .ok (.iload_n 1, 1) := by decide +kernel
theorem dX8_back_14 : decode cX8_back 14 = .ok (.bipush 21, 2) := by decide +kernel
theorem dX8_back_16 : decode cX8_back 16 = .ok (.if_icmp .ge 21, 3) := by decide +kernel
theorem dX8_back_19 : decode cX8_back 19 = .ok (.aload_n 0, 1) := by decide +kernel
theorem dX8_back_20 : decode cX8_back 20 = .ok (.getfield 32, 3) := by decide +kernel
theorem dX8_back_23 : decode cX8_back 23 = .ok (.iload_n 1, 1) := by decide +kernel
theorem dX8_back_24 : decode cX8_back 24 = .ok (.aload_n 0, 1) := by decide +kernel
theorem dX8_back_25 : decode cX8_back 25 = .ok (.getfield 47, 3) := by decide +kernel
theorem dX8_back_28 : decode cX8_back 28 = .ok (.iload_n 1, 1) := by decide +kernel
theorem dX8_back_29 : decode cX8_back 29 = .ok (.iaload, 1) := by decide +kernel
theorem dX8_back_30 : decode cX8_back 30 = .ok (.iastore, 1) := by decide +kernel
theorem dX8_back_31 : decode cX8_back 31 = .ok (.iinc 1 1, 3) := by decide +kernel
theorem dX8_back_34 : decode cX8_back 34 = .ok (.goto (-21), 3) := by decide +kernel
theorem dX8_back_37 : decode cX8_back 37 = .ok (.aload_n 0, 1) := by decide +kernel
theorem dX8_back_38 : decode cX8_back 38 = .ok (.aload_n 0, 1) := by decide +kernel
theorem dX8_back_39 : decode cX8_back 39 = .ok (.getfield 50, 3) := by decide +kernel
theorem dX8_back_42 : decode cX8_back 42 = .ok (.putfield 73, 3) := by decide +kernel
theorem dX8_back_45 : decode cX8_back 45 = .ok (.aload_n 0, 1) := by decide +kernel
theorem dX8_back_46 : decode cX8_back 46 = .ok (.aload_n 0, 1) := by decide +kernel
theorem dX8_back_47 : decode cX8_back 47 = .ok (.getfield 325, 3) := by decide +kernel
theorem dX8_back_50 : decode cX8_back 50 = .ok (.putfield 23, 3) := by decide +kernel
theorem dX8_back_53 : decode cX8_back 53 = .ok (.aload_n 0, 1) := by decide +kernel
theorem dX8_back_54 : decode cX8_back 54 = .ok (.aload_n 0, 1) := by decide +kernel
theorem dX8_back_55 : decode cX8_back 55 = .ok (.getfield 328, 3) := by decide +kernel
theorem dX8_back_58 : decode cX8_back 58 = .ok (.putfield 26, 3) := by decide +kernel
theorem dX8_back_61 : decode cX8_back 61 = .ok (.aload_n 0, 1) := by decide +kernel
theorem dX8_back_62 : decode cX8_back 62 = .ok (.aload_n 0, 1) := by decide +kernel
theorem dX8_back_63 : decode cX8_back 63 = .ok (.getfield 331, 3) := by decide +kernel
theorem dX8_back_66 : decode cX8_back 66 = .ok (.putfield 98, 3) := by decide +kernel
theorem dX8_back_69 : decode cX8_back 69 = .ok (.aload_n 0, 1) := by decide +kernel
theorem dX8_back_70 : decode cX8_back 70 = .ok (.getfield 73, 3) := by decide +kernel
theorem dX8_back_73 : decode cX8_back 73 = .ok (.ireturn, 1) := by decide +kernel
theorem dX8_count_0 : decode cX8_count 0 = .ok (.iload_n 1, 1) := by decide +kernel
theorem dX8_count_1 : decode cX8_count 1 = .ok (.i2l, 1) := by decide +kernel
theorem dX8_count_2 : decode cX8_count 2 = .ok (.lconst 0, 1) := by decide +kernel
theorem dX8_count_3 : decode cX8_count 3 = .ok (.ldc2_w 80, 3) := by decide +kernel
theorem dX8_count_6 : decode cX8_count 6 = .ok (.invokestatic 76, 3) := by decide +kernel
theorem dX8_count_9 : decode cX8_count 9 = .ok (.ifCond .ne 6, 3) := by decide +kernel
theorem dX8_count_12 : decode cX8_count 12 = .ok (.bipush (-2), 2) := by decide +kernel
theorem dX8_count_14 : decode cX8_count 14 = .ok (.ireturn, 1) := by decide +kernel
theorem dX8_count_15 : decode cX8_count 15 = .ok (.iload_n 1, 1) := by decide +kernel
theorem dX8_count_16 : decode cX8_count 16 = .ok (.iconst 4, 1) := by decide +kernel
theorem dX8_count_17 : decode cX8_count 17 = .ok (.if_icmp .ge 43, 3) := by decide +kernel
theorem dX8_count_20 : decode cX8_count 20 = .ok (.iload_n 1, 1) := by decide +kernel
theorem dX8_count_21 : decode cX8_count 21 = .ok (.ifCond .ne 10, 3) := by decide +kernel
theorem dX8_count_24 : decode cX8_count 24 = .ok (.aload_n 0, 1) := by decide +kernel
theorem dX8_count_25 : decode cX8_count 25 = .ok (.getfield 73, 3) := by decide +kernel
theorem dX8_count_28 : decode cX8_count 28 = .ok (.goto 31, 3) := by decide +kernel
theorem dX8_count_31 : decode cX8_count 31 = .ok (.iload_n 1, 1) := by decide +kernel
theorem dX8_count_32 : decode cX8_count 32 = .ok (.iconst 1, 1) := by decide +kernel
theorem dX8_count_33 : decode cX8_count 33 = .ok (.if_icmp .ne 10, 3) := by decide +kernel
theorem dX8_count_36 : decode cX8_count 36 = .ok (.aload_n 0, 1) := by decide +kernel
theorem dX8_count_37 : decode cX8_count 37 = .ok (.getfield 70, 3) := by decide +kernel
theorem dX8_count_40 : decode cX8_count 40 = .ok (.goto 19, 3) := by decide +kernel
theorem dX8_count_43 : decode cX8_count 43 = .ok (.iload_n 1, 1) := by decide +kernel
theorem dX8_count_44 : decode cX8_count 44 = .ok (.iconst 2, 1) := by decide +kernel
theorem dX8_count_45 : decode cX8_count 45 = .ok (.if_icmp .ne 10, 3) := by decide +kernel
theorem dX8_count_48 : decode cX8_count 48 = .ok (.aload_n 0, 1) := by decide +kernel
theorem dX8_count_49 : decode cX8_count 49 = .ok (.getfield 122, 3) := by decide +kernel
theorem dX8_count_52 : decode cX8_count 52 = .ok (.goto 7, 3) := by decide +kernel
theorem dX8_count_55 : decode cX8_count 55 = .ok (.aload_n 0, 1) := by decide +kernel
theorem dX8_count_56 : decode cX8_count 56 = .ok (.getfield 98, 3) := by decide +kernel
theorem dX8_count_59 : decode cX8_count 59 = .ok (.ireturn, 1) := by decide +kernel
theorem dX8_count_60 : decode cX8_count 60 = .ok (.aload_n 0, 1) := by decide +kernel
theorem dX8_count_61 : decode cX8_count 61 = .ok (.invokevirtual 108, 3) := by decide +kernel
theorem dX8_count_64 : decode cX8_count 64 = .ok (.aload_n 0, 1) := by decide +kernel
theorem dX8_count_65 : decode cX8_count 65 = .ok (.invokevirtual 256, 3) := by decide +kernel
theorem dX8_count_68 : decode cX8_count 68 = .ok (.ireturn, 1) := by decide +kernel
theorem dX8_isSheet_0 : decode cX8_isSheet 0 = .ok (.iload_n 0, 1) := by decide +kernel
theorem dX8_isSheet_1 : decode cX8_isSheet 1 = .ok (.i2l, 1) := by decide +kernel
theorem dX8_isSheet_2 : decode cX8_isSheet 2 = .ok (.lconst 0, 1) := by decide +kernel
theorem dX8_isSheet_3 : decode cX8_isSheet 3 = .ok (.ldc2_w 297, 3) := by decide +kernel
theorem dX8_isSheet_6 : decode cX8_isSheet 6 = .ok (.invokestatic 76, 3) := by decide +kernel
theorem dX8_isSheet_9 : decode cX8_isSheet 9 = .ok (.ireturn, 1) := by decide +kernel
theorem dX8_sheet_0 : decode cX8_sheet 0 = .ok (.iload_n 1, 1) := by decide +kernel
theorem dX8_sheet_1 : decode cX8_sheet 1 = .ok (.invokestatic 270, 3) := by decide +kernel
theorem dX8_sheet_4 : decode cX8_sheet 4 = .ok (.ifCond .eq 27, 3) := by decide +kernel
theorem dX8_sheet_7 : decode cX8_sheet 7 = .ok (.iload_n 2, 1) := by decide +kernel
theorem dX8_sheet_8 : decode cX8_sheet 8 = .ok (.i2l, 1) := by decide +kernel
theorem dX8_sheet_9 : decode cX8_sheet 9 = .ok (.ldc2_w 334, 3) := by decide +kernel
theorem dX8_sheet_12 : decode cX8_sheet 12 = .ok (.ldc2_w 304, 3) := by decide +kernel
theorem dX8_sheet_15 : decode cX8_sheet 15 = .ok (.invokestatic 76, 3) := by decide +kernel
theorem dX8_sheet_18 : decode cX8_sheet 18 = .ok (.ifCond .eq 13, 3) := by decide +kernel
theorem dX8_sheet_21 : decode cX8_sheet 21 = .ok (.iload_n 2, 1) := by decide +kernel
theorem dX8_sheet_22 : decode cX8_sheet 22 = .ok (.ifCond .lt 12, 3) := by decide +kernel
theorem dX8_sheet_25 : decode cX8_sheet 25 = .ok (.iload_n 3, 1) := by decide +kernel
theorem dX8_sheet_26 : decode cX8_sheet 26 = .ok (.bipush 40, 2) := by decide +kernel
theorem dX8_sheet_28 : decode cX8_sheet 28 = .ok (.if_icmp .le 6, 3) := by decide +kernel
theorem dX8_sheet_31 : decode cX8_sheet 31 = .ok (.bipush (-2), 2) := by decide +kernel
theorem dX8_sheet_33 : decode cX8_sheet 33 = .ok (.ireturn, 1) := by decide +kernel
theorem dX8_sheet_34 : decode cX8_sheet 34 = .ok (.iload_n 2, 1) := by decide +kernel
theorem dX8_sheet_35 : decode cX8_sheet 35 = .ok (.ifCond .lt 10, 3) := by decide +kernel
theorem dX8_sheet_38 : decode cX8_sheet 38 = .ok (.iload_n 3, 1) := by decide +kernel
theorem dX8_sheet_39 : decode cX8_sheet 39 = .ok (.ifCond .ge 6, 3) := by decide +kernel
theorem dX8_sheet_42 : decode cX8_sheet 42 = .ok (.bipush (-14), 2) := by decide +kernel
theorem dX8_sheet_44 : decode cX8_sheet 44 = .ok (.ireturn, 1) := by decide +kernel
theorem dX8_sheet_45 : decode cX8_sheet 45 = .ok (.aload_n 0, 1) := by decide +kernel
theorem dX8_sheet_46 : decode cX8_sheet 46 = .ok (.getfield 53, 3) := by decide +kernel
theorem dX8_sheet_49 : decode cX8_sheet 49 = .ok (.iload_n 1, 1) := by decide +kernel
theorem dX8_sheet_50 : decode cX8_sheet 50 = .ok (.iload_n 2, 1) := by decide +kernel
theorem dX8_sheet_51 : decode cX8_sheet 51 = .ok (.ifCond .lt 7, 3) := by decide +kernel
theorem dX8_sheet_54 : decode cX8_sheet 54 = .ok (.iconst 1, 1) := by decide +kernel
theorem dX8_sheet_55 : decode cX8_sheet 55 = .ok (.goto 4, 3) := by decide +kernel
theorem dX8_sheet_58 : decode cX8_sheet 58 = .ok (.iconst 0, 1) := by decide +kernel
theorem dX8_sheet_59 : decode cX8_sheet 59 = .ok (.bastore, 1) := by decide +kernel
theorem dX8_sheet_60 : decode cX8_sheet 60 = .ok (.aload_n 0, 1) := by decide +kernel
theorem dX8_sheet_61 : decode cX8_sheet 61 = .ok (.getfield 57, 3) := by decide +kernel
theorem dX8_sheet_64 : decode cX8_sheet 64 = .ok (.iload_n 1, 1) := by decide +kernel
theorem dX8_sheet_65 : decode cX8_sheet 65 = .ok (.iload_n 2, 1) := by decide +kernel
theorem dX8_sheet_66 : decode cX8_sheet 66 = .ok (.iastore, 1) := by decide +kernel
theorem dX8_sheet_67 : decode cX8_sheet 67 = .ok (.aload_n 0, 1) := by decide +kernel
theorem dX8_sheet_68 : decode cX8_sheet 68 = .ok (.getfield 60, 3) := by decide +kernel
theorem dX8_sheet_71 : decode cX8_sheet 71 = .ok (.iload_n 1, 1) := by decide +kernel
theorem dX8_sheet_72 : decode cX8_sheet 72 = .ok (.iload_n 3, 1) := by decide +kernel
theorem dX8_sheet_73 : decode cX8_sheet 73 = .ok (.iastore, 1) := by decide +kernel
theorem dX8_sheet_74 : decode cX8_sheet 74 = .ok (.iconst 0, 1) := by decide +kernel
theorem dX8_sheet_75 : decode cX8_sheet 75 = .ok (.istore 4, 2) := by decide +kernel
theorem dX8_sheet_77 : decode cX8_sheet 77 = .ok (.iload 4, 2) := by decide +kernel
theorem dX8_sheet_79 : decode cX8_sheet 79 = .ok (.iload_n 3, 1) := by decide +kernel
theorem dX8_sheet_80 : decode cX8_sheet 80 = .ok (.if_icmp .ge 26, 3) := by decide +kernel
theorem dX8_sheet_83 : decode cX8_sheet 83 = .ok (.iload_n 2, 1) := by decide +kernel
theorem dX8_sheet_84 : decode cX8_sheet 84 = .ok (.ifCond .lt 22, 3) := by decide +kernel
theorem dX8_sheet_87 : decode cX8_sheet 87 = .ok (.aload_n 0, 1) := by decide +kernel
theorem dX8_sheet_88 : decode cX8_sheet 88 = .ok (.getfield 63, 3) := by decide +kernel
theorem dX8_sheet_91 : decode cX8_sheet 91 = .ok (.bipush 40, 2) := by decide +kernel
theorem dX8_sheet_93 : decode cX8_sheet 93 = .ok (.iload_n 1, 1) := by decide +kernel
theorem dX8_sheet_94 : decode cX8_sheet 94 = .ok (.imul, 1) := by decide +kernel
theorem dX8_sheet_95 : decode cX8_sheet 95 = .ok (.iload 4, 2) := by decide +kernel
theorem dX8_sheet_97 : decode cX8_sheet 97 = .ok (.iadd, 1) := by decide +kernel
theorem dX8_sheet_98 : decode cX8_sheet 98 = .ok (.iconst 0, 1) := by decide +kernel
theorem dX8_sheet_99 : decode cX8_sheet 99 = .ok (.iastore, 1) := by decide +kernel
theorem dX8_sheet_100 : decode cX8_sheet 100 = .ok (.iinc 4 1, 3) := by decide +kernel
theorem dX8_sheet_103 : decode cX8_sheet 103 = .ok (.goto (-26), 3) := by decide +kernel
theorem dX8_sheet_106 : decode cX8_sheet 106 = .ok (.iconst 1, 1) := by decide +kernel
theorem dX8_sheet_107 : decode cX8_sheet 107 = .ok (.ireturn, 1) := by decide +kernel
theorem dX8_cell_0 : decode cX8_cell 0 = .ok (.iload_n 1, 1) := by decide +kernel
theorem dX8_cell_1 : decode cX8_cell 1 = .ok (.invokestatic 270, 3) := by decide +kernel
theorem dX8_cell_4 : decode cX8_cell 4 = .ok (.ifCond .ne 6, 3) := by decide +kernel
theorem dX8_cell_7 : decode cX8_cell 7 = .ok (.bipush (-2), 2) := by decide +kernel
theorem dX8_cell_9 : decode cX8_cell 9 = .ok (.ireturn, 1) := by decide +kernel
theorem dX8_cell_10 : decode cX8_cell 10 = .ok (.aload_n 0, 1) := by decide +kernel
theorem dX8_cell_11 : decode cX8_cell 11 = .ok (.getfield 53, 3) := by decide +kernel
theorem dX8_cell_14 : decode cX8_cell 14 = .ok (.iload_n 1, 1) := by decide +kernel
theorem dX8_cell_15 : decode cX8_cell 15 = .ok (.baload, 1) := by decide +kernel
theorem dX8_cell_16 : decode cX8_cell 16 = .ok (.ifCond .ne 6, 3) := by decide +kernel
theorem dX8_cell_19 : decode cX8_cell 19 = .ok (.bipush (-11), 2) := by decide +kernel
theorem dX8_cell_21 : decode cX8_cell 21 = .ok (.ireturn, 1) := by decide +kernel
theorem dX8_cell_22 : decode cX8_cell 22 = .ok (.iload_n 2, 1) := by decide +kernel
theorem dX8_cell_23 : decode cX8_cell 23 = .ok (.i2l, 1) := by decide +kernel
theorem dX8_cell_24 : decode cX8_cell 24 = .ok (.lconst 0, 1) := by decide +kernel
theorem dX8_cell_25 : decode cX8_cell 25 = .ok (.aload_n 0, 1) := by decide +kernel
theorem dX8_cell_26 : decode cX8_cell 26 = .ok (.getfield 60, 3) := by decide +kernel
theorem dX8_cell_29 : decode cX8_cell 29 = .ok (.iload_n 1, 1) := by decide +kernel
theorem dX8_cell_30 : decode cX8_cell 30 = .ok (.iaload, 1) := by decide +kernel
theorem dX8_cell_31 : decode cX8_cell 31 = .ok (.iconst 1, 1) := by decide +kernel
theorem dX8_cell_32 : decode cX8_cell 32 = .ok (.isub, 1) := by decide +kernel
theorem dX8_cell_33 : decode cX8_cell 33 = .ok (.i2l, 1) := by decide +kernel
theorem dX8_cell_34 : decode cX8_cell 34 = .ok (.invokestatic 76, 3) := by decide +kernel
theorem dX8_cell_37 : decode cX8_cell 37 = .ok (.ifCond .ne 6, 3) := by decide +kernel
theorem dX8_cell_40 : decode cX8_cell 40 = .ok (.bipush (-12), 2) := by decide +kernel
theorem dX8_cell_42 : decode cX8_cell 42 = .ok (.ireturn, 1) := by decide +kernel
theorem dX8_cell_43 : decode cX8_cell 43 = .ok (.aload_n 0, 1) := by decide +kernel
theorem dX8_cell_44 : decode cX8_cell 44 = .ok (.getfield 63, 3) := by decide +kernel
theorem dX8_cell_47 : decode cX8_cell 47 = .ok (.bipush 40, 2) := by decide +kernel
theorem dX8_cell_49 : decode cX8_cell 49 = .ok (.iload_n 1, 1) := by decide +kernel
theorem dX8_cell_50 : decode cX8_cell 50 = .ok (.imul, 1) := by decide +kernel
theorem dX8_cell_51 : decode cX8_cell 51 = .ok (.iload_n 2, 1) := by decide +kernel
theorem dX8_cell_52 : decode cX8_cell 52 = .ok (.iadd, 1) := by decide +kernel
theorem dX8_cell_53 : decode cX8_cell 53 = .ok (.aload_n 0, 1) := by decide +kernel
theorem dX8_cell_54 : decode cX8_cell 54 = .ok (.getfield 57, 3) := by decide +kernel
theorem dX8_cell_57 : decode cX8_cell 57 = .ok (.iload_n 1, 1) := by decide +kernel
theorem dX8_cell_58 : decode cX8_cell 58 = .ok (.iaload, 1) := by decide +kernel
theorem dX8_cell_59 : decode cX8_cell 59 = .ok (.ifCond .ne 8, 3) := by decide +kernel
theorem dX8_cell_62 : decode cX8_cell 62 = .ok (.iload_n 3, 1) := by decide +kernel
theorem dX8_cell_63 : decode cX8_cell 63 = .ok (.i2b, 1) := by decide +kernel
theorem dX8_cell_64 : decode cX8_cell 64 = .ok (.goto 19, 3) := by decide +kernel
theorem dX8_cell_67 : decode cX8_cell 67 = .ok (.aload_n 0, 1) := by decide +kernel
theorem dX8_cell_68 : decode cX8_cell 68 = .ok (.getfield 57, 3) := by decide +kernel
theorem dX8_cell_71 : decode cX8_cell 71 = .ok (.iload_n 1, 1) := by decide +kernel
theorem dX8_cell_72 : decode cX8_cell 72 = .ok (.iaload, 1) := by decide +kernel
theorem dX8_cell_73 : decode cX8_cell 73 = .ok (.iconst 1, 1) := by decide +kernel
theorem dX8_cell_74 : decode cX8_cell 74 = .ok (.if_icmp .ne 8, 3) := by decide +kernel
theorem dX8_cell_77 : decode cX8_cell 77 = .ok (.iload_n 3, 1) := by decide +kernel
theorem dX8_cell_78 : decode cX8_cell 78 = .ok (.i2s, 1) := by decide +kernel
theorem dX8_cell_79 : decode cX8_cell 79 = .ok (.goto 4, 3) := by decide +kernel
theorem dX8_cell_82 : decode cX8_cell 82 = .ok (.iload_n 3, 1) := by decide +kernel
theorem dX8_cell_83 : decode cX8_cell 83 = .ok (.iastore, 1) := by decide +kernel
theorem dX8_cell_84 : decode cX8_cell 84 = .ok (.iconst 1, 1) := by decide +kernel
theorem dX8_cell_85 : decode cX8_cell 85 = .ok (.ireturn, 1) := by decide +kernel
theorem dX8_copy_0 : decode cX8_copy 0 = .ok (.iload_n 1, 1) := by decide +kernel
theorem dX8_copy_1 : decode cX8_copy 1 = .ok (.invokestatic 270, 3) := by decide +kernel
theorem dX8_copy_4 : decode cX8_copy 4 = .ok (.ifCond .eq 10, 3) := by decide +kernel
theorem dX8_copy_7 : decode cX8_copy 7 = .ok (.iload_n 3, 1) := by decide +kernel
theorem dX8_copy_8 : decode cX8_copy 8 = .ok (.invokestatic 270, 3) := by decide +kernel
theorem dX8_copy_11 : decode cX8_copy 11 = .ok (.ifCond .ne 6, 3) := by decide +kernel
theorem dX8_copy_14 : decode cX8_copy 14 = .ok (.bipush (-2), 2) := by decide +kernel
theorem dX8_copy_16 : decode cX8_copy 16 = .ok (.ireturn, 1) := by decide +kernel
theorem dX8_copy_17 : decode cX8_copy 17 = .ok (.aload_n 0, 1) := by decide +kernel
theorem dX8_copy_18 : decode cX8_copy 18 = .ok (.getfield 53, 3) := by decide +kernel
theorem dX8_copy_21 : decode cX8_copy 21 = .ok (.iload_n 1, 1) := by decide +kernel
theorem dX8_copy_22 : decode cX8_copy 22 = .ok (.baload, 1) := by decide +kernel
theorem dX8_copy_23 : decode cX8_copy 23 = .ok (.ifCond .eq 12, 3) := by decide +kernel
theorem dX8_copy_26 : decode cX8_copy 26 = .ok (.aload_n 0, 1) := by decide +kernel
theorem dX8_copy_27 : decode cX8_copy 27 = .ok (.getfield 53, 3) := by decide +kernel
theorem dX8_copy_30 : decode cX8_copy 30 = .ok (.iload_n 3, 1) := by decide +kernel
theorem dX8_copy_31 : decode cX8_copy 31 = .ok (.baload, 1) := by decide +kernel
theorem dX8_copy_32 : decode cX8_copy 32 = .ok (.ifCond .ne 6, 3) := by decide +kernel
theorem dX8_copy_35 : decode cX8_copy 35 = .ok (.bipush (-11), 2) := by decide +kernel
theorem dX8_copy_37 : decode cX8_copy 37 = .ok (.ireturn, 1) := by decide +kernel
theorem dX8_copy_38 : decode cX8_copy 38 = .ok (.aload_n 0, 1) := by decide +kernel
theorem dX8_copy_39 : decode cX8_copy 39 = .ok (.getfield 57, 3) := by decide +kernel
theorem dX8_copy_42 : decode cX8_copy 42 = .ok (.iload_n 1, 1) := by decide +kernel
theorem dX8_copy_43 : decode cX8_copy 43 = .ok (.iaload, 1) := by decide +kernel
theorem dX8_copy_44 : decode cX8_copy 44 = .ok (.aload_n 0, 1) := by decide +kernel
theorem dX8_copy_45 : decode cX8_copy 45 = .ok (.getfield 57, 3) := by decide +kernel
theorem dX8_copy_48 : decode cX8_copy 48 = .ok (.iload_n 3, 1) := by decide +kernel
theorem dX8_copy_49 : decode cX8_copy 49 = .ok (.iaload, 1) := by decide +kernel
theorem dX8_copy_50 : decode cX8_copy 50 = .ok (.if_icmp .eq 6, 3) := by decide +kernel
theorem dX8_copy_53 : decode cX8_copy 53 = .ok (.bipush (-13), 2) := by decide +kernel
theorem dX8_copy_55 : decode cX8_copy 55 = .ok (.ireturn, 1) := by decide +kernel
theorem dX8_copy_56 : decode cX8_copy 56 = .ok (.iload 5, 2) := by decide +kernel
theorem dX8_copy_58 : decode cX8_copy 58 = .ok (.ifCond .lt 39, 3) := by decide +kernel
theorem dX8_copy_61 : decode cX8_copy 61 = .ok (.iload_n 2, 1) := by decide +kernel
theorem dX8_copy_62 : decode cX8_copy 62 = .ok (.ifCond .lt 35, 3) := by decide +kernel
theorem dX8_copy_65 : decode cX8_copy 65 = .ok (.iload 4, 2) := by decide +kernel
theorem dX8_copy_67 : decode cX8_copy 67 = .ok (.ifCond .lt 30, 3) := by decide +kernel
theorem dX8_copy_70 : decode cX8_copy 70 = .ok (.iload_n 2, 1) := by decide +kernel
theorem dX8_copy_71 : decode cX8_copy 71 = .ok (.aload_n 0, 1) := by decide +kernel
theorem dX8_copy_72 : decode cX8_copy 72 = .ok (.getfield 60, 3) := by decide +kernel
theorem dX8_copy_75 : decode cX8_copy 75 = .ok (.iload_n 1, 1) := by decide +kernel
theorem dX8_copy_76 : decode cX8_copy 76 = .ok (.iaload, 1) := by decide +kernel
theorem dX8_copy_77 : decode cX8_copy 77 = .ok (.iload 5, 2) := by decide +kernel
theorem dX8_copy_79 : decode cX8_copy 79 = .ok (.isub, 1) := by decide +kernel
theorem dX8_copy_80 : decode cX8_copy 80 = .ok (.if_icmp .gt 17, 3) := by decide +kernel
theorem dX8_copy_83 : decode cX8_copy 83 = .ok (.iload 4, 2) := by decide +kernel
theorem dX8_copy_85 : decode cX8_copy 85 = .ok (.aload_n 0, 1) := by decide +kernel
theorem dX8_copy_86 : decode cX8_copy 86 = .ok (.getfield 60, 3) := by decide +kernel
theorem dX8_copy_89 : decode cX8_copy 89 = .ok (.iload_n 3, 1) := by decide +kernel
theorem dX8_copy_90 : decode cX8_copy 90 = .ok (.iaload, 1) := by decide +kernel
theorem dX8_copy_91 : decode cX8_copy 91 = .ok (.iload 5, 2) := by decide +kernel
theorem dX8_copy_93 : decode cX8_copy 93 = .ok (.isub, 1) := by decide +kernel
theorem dX8_copy_94 : decode cX8_copy 94 = .ok (.if_icmp .le 6, 3) := by decide +kernel
theorem dX8_copy_97 : decode cX8_copy 97 = .ok (.bipush (-12), 2) := by decide +kernel
theorem dX8_copy_99 : decode cX8_copy 99 = .ok (.ireturn, 1) := by decide +kernel
theorem dX8_copy_100 : decode cX8_copy 100 = .ok (.iload_n 1, 1) := by decide +kernel
theorem dX8_copy_101 : decode cX8_copy 101 = .ok (.iload_n 3, 1) := by decide +kernel
theorem dX8_copy_102 : decode cX8_copy 102 = .ok (.if_icmp .ne 13, 3) := by decide +kernel
theorem dX8_copy_105 : decode cX8_copy 105 = .ok (.iload_n 2, 1) := by decide +kernel
theorem dX8_copy_106 : decode cX8_copy 106 = .ok (.iload 4, 2) := by decide +kernel
theorem dX8_copy_108 : decode cX8_copy 108 = .ok (.if_icmp .ge 7, 3) := by decide +kernel
theorem dX8_copy_111 : decode cX8_copy 111 = .ok (.iconst 1, 1) := by decide +kernel
theorem dX8_copy_112 : decode cX8_copy 112 = .ok (.goto 4, 3) := by decide +kernel
theorem dX8_copy_115 : decode cX8_copy 115 = .ok (.iconst 0, 1) := by decide +kernel
theorem dX8_copy_116 : decode cX8_copy 116 = .ok (.istore 6, 2) := by decide +kernel
theorem dX8_copy_118 : decode cX8_copy 118 = .ok (.iconst 0, 1) := by decide +kernel
theorem dX8_copy_119 : decode cX8_copy 119 = .ok (.istore 7, 2) := by decide +kernel
theorem dX8_copy_121 : decode cX8_copy 121 = .ok (.iload 7, 2) := by decide +kernel
theorem dX8_copy_123 : decode cX8_copy 123 = .ok (.iload 5, 2) := by decide +kernel
theorem dX8_copy_125 : decode cX8_copy 125 = .ok (.if_icmp .ge 57, 3) := by decide +kernel
theorem dX8_copy_128 : decode cX8_copy 128 = .ok (.iload 6, 2) := by decide +kernel
theorem dX8_copy_130 : decode cX8_copy 130 = .ok (.ifCond .eq 13, 3) := by decide +kernel
theorem dX8_copy_133 : decode cX8_copy 133 = .ok (.iload 5, 2) := by decide +kernel
theorem dX8_copy_135 : decode cX8_copy 135 = .ok (.iconst 1, 1) := by decide +kernel
theorem dX8_copy_136 : decode cX8_copy 136 = .ok (.isub, 1) := by decide +kernel
theorem dX8_copy_137 : decode cX8_copy 137 = .ok (.iload 7, 2) := by decide +kernel
theorem dX8_copy_139 : decode cX8_copy 139 = .ok (.isub, 1) := by decide +kernel
theorem dX8_copy_140 : decode cX8_copy 140 = .ok (.goto 5, 3) := by decide +kernel
theorem dX8_copy_143 : decode cX8_copy 143 = .ok (.iload 7, 2) := by decide +kernel
theorem dX8_copy_145 : decode cX8_copy 145 = .ok (.istore 8, 2) := by decide +kernel
theorem dX8_copy_147 : decode cX8_copy 147 = .ok (.aload_n 0, 1) := by decide +kernel
theorem dX8_copy_148 : decode cX8_copy 148 = .ok (.getfield 63, 3) := by decide +kernel
theorem dX8_copy_151 : decode cX8_copy 151 = .ok (.bipush 40, 2) := by decide +kernel
theorem dX8_copy_153 : decode cX8_copy 153 = .ok (.iload_n 3, 1) := by decide +kernel
theorem dX8_copy_154 : decode cX8_copy 154 = .ok (.imul, 1) := by decide +kernel
theorem dX8_copy_155 : decode cX8_copy 155 = .ok (.iload 4, 2) := by decide +kernel
theorem dX8_copy_157 : decode cX8_copy 157 = .ok (.iadd, 1) := by decide +kernel
theorem dX8_copy_158 : decode cX8_copy 158 = .ok (.iload 8, 2) := by decide +kernel
theorem dX8_copy_160 : decode cX8_copy 160 = .ok (.iadd, 1) := by decide +kernel
theorem dX8_copy_161 : decode cX8_copy 161 = .ok (.aload_n 0, 1) := by decide +kernel
theorem dX8_copy_162 : decode cX8_copy 162 = .ok (.getfield 63, 3) := by decide +kernel
theorem dX8_copy_165 : decode cX8_copy 165 = .ok (.bipush 40, 2) := by decide +kernel
theorem dX8_copy_167 : decode cX8_copy 167 = .ok (.iload_n 1, 1) := by decide +kernel
theorem dX8_copy_168 : decode cX8_copy 168 = .ok (.imul, 1) := by decide +kernel
theorem dX8_copy_169 : decode cX8_copy 169 = .ok (.iload_n 2, 1) := by decide +kernel
theorem dX8_copy_170 : decode cX8_copy 170 = .ok (.iadd, 1) := by decide +kernel
theorem dX8_copy_171 : decode cX8_copy 171 = .ok (.iload 8, 2) := by decide +kernel
theorem dX8_copy_173 : decode cX8_copy 173 = .ok (.iadd, 1) := by decide +kernel
theorem dX8_copy_174 : decode cX8_copy 174 = .ok (.iaload, 1) := by decide +kernel
theorem dX8_copy_175 : decode cX8_copy 175 = .ok (.iastore, 1) := by decide +kernel
theorem dX8_copy_176 : decode cX8_copy 176 = .ok (.iinc 7 1, 3) := by decide +kernel
theorem dX8_copy_179 : decode cX8_copy 179 = .ok (.goto (-58), 3) := by decide +kernel
theorem dX8_copy_182 : decode cX8_copy 182 = .ok (.iload 5, 2) := by decide +kernel
theorem dX8_copy_184 : decode cX8_copy 184 = .ok (.ireturn, 1) := by decide +kernel
theorem dX8_parts_0 : decode cX8_parts 0 = .ok (.iload_n 1, 1) := by decide +kernel
theorem dX8_parts_1 : decode cX8_parts 1 = .ok (.invokestatic 270, 3) := by decide +kernel
theorem dX8_parts_4 : decode cX8_parts 4 = .ok (.ifCond .eq 28, 3) := by decide +kernel
theorem dX8_parts_7 : decode cX8_parts 7 = .ok (.iload_n 2, 1) := by decide +kernel
theorem dX8_parts_8 : decode cX8_parts 8 = .ok (.i2l, 1) := by decide +kernel
theorem dX8_parts_9 : decode cX8_parts 9 = .ok (.lconst 0, 1) := by decide +kernel
theorem dX8_parts_10 : decode cX8_parts 10 = .ok (.ldc2_w 304, 3) := by decide +kernel
theorem dX8_parts_13 : decode cX8_parts 13 = .ok (.invokestatic 76, 3) := by decide +kernel
theorem dX8_parts_16 : decode cX8_parts 16 = .ok (.ifCond .eq 16, 3) := by decide +kernel
theorem dX8_parts_19 : decode cX8_parts 19 = .ok (.iload 4, 2) := by decide +kernel
theorem dX8_parts_21 : decode cX8_parts 21 = .ok (.i2l, 1) := by decide +kernel
theorem dX8_parts_22 : decode cX8_parts 22 = .ok (.lconst 0, 1) := by decide +kernel
theorem dX8_parts_23 : decode cX8_parts 23 = .ok (.ldc2_w 336, 3) := by decide +kernel
theorem dX8_parts_26 : decode cX8_parts 26 = .ok (.invokestatic 76, 3) := by decide +kernel
theorem dX8_parts_29 : decode cX8_parts 29 = .ok (.ifCond .ne 6, 3) := by decide +kernel
theorem dX8_parts_32 : decode cX8_parts 32 = .ok (.bipush (-2), 2) := by decide +kernel
theorem dX8_parts_34 : decode cX8_parts 34 = .ok (.ireturn, 1) := by decide +kernel
theorem dX8_parts_35 : decode cX8_parts 35 = .ok (.aload_n 0, 1) := by decide +kernel
theorem dX8_parts_36 : decode cX8_parts 36 = .ok (.getfield 53, 3) := by decide +kernel
theorem dX8_parts_39 : decode cX8_parts 39 = .ok (.iload_n 1, 1) := by decide +kernel
theorem dX8_parts_40 : decode cX8_parts 40 = .ok (.baload, 1) := by decide +kernel
theorem dX8_parts_41 : decode cX8_parts 41 = .ok (.ifCond .eq 16, 3) := by decide +kernel
theorem dX8_parts_44 : decode cX8_parts 44 = .ok (.aload_n 0, 1) := by decide +kernel
theorem dX8_parts_45 : decode cX8_parts 45 = .ok (.getfield 57, 3) := by decide +kernel
theorem dX8_parts_48 : decode cX8_parts 48 = .ok (.iload_n 1, 1) := by decide +kernel
theorem dX8_parts_49 : decode cX8_parts 49 = .ok (.iaload, 1) := by decide +kernel
theorem dX8_parts_50 : decode cX8_parts 50 = .ok (.iload_n 2, 1) := by decide +kernel
theorem dX8_parts_51 : decode cX8_parts 51 = .ok (.if_icmp .eq 6, 3) := by decide +kernel
theorem dX8_parts_54 : decode cX8_parts 54 = .ok (.bipush (-13), 2) := by decide +kernel
theorem dX8_parts_56 : decode cX8_parts 56 = .ok (.ireturn, 1) := by decide +kernel
theorem dX8_parts_57 : decode cX8_parts 57 = .ok (.aload_n 0, 1) := by decide +kernel
theorem dX8_parts_58 : decode cX8_parts 58 = .ok (.getfield 53, 3) := by decide +kernel
theorem dX8_parts_61 : decode cX8_parts 61 = .ok (.iload_n 1, 1) := by decide +kernel
theorem dX8_parts_62 : decode cX8_parts 62 = .ok (.baload, 1) := by decide +kernel
theorem dX8_parts_63 : decode cX8_parts 63 = .ok (.ifCond .ne 6, 3) := by decide +kernel
theorem dX8_parts_66 : decode cX8_parts 66 = .ok (.bipush (-11), 2) := by decide +kernel
theorem dX8_parts_68 : decode cX8_parts 68 = .ok (.ireturn, 1) := by decide +kernel
theorem dX8_parts_69 : decode cX8_parts 69 = .ok (.iconst 0, 1) := by decide +kernel
theorem dX8_parts_70 : decode cX8_parts 70 = .ok (.istore 5, 2) := by decide +kernel
theorem dX8_parts_72 : decode cX8_parts 72 = .ok (.iconst 0, 1) := by decide +kernel
theorem dX8_parts_73 : decode cX8_parts 73 = .ok (.istore 6, 2) := by decide +kernel
theorem dX8_parts_75 : decode cX8_parts 75 = .ok (.iload 6, 2) := by decide +kernel
theorem dX8_parts_77 : decode cX8_parts 77 = .ok (.iload 4, 2) := by decide +kernel
theorem dX8_parts_79 : decode cX8_parts 79 = .ok (.if_icmp .ge 79, 3) := by decide +kernel
theorem dX8_parts_82 : decode cX8_parts 82 = .ok (.iload_n 3, 1) := by decide +kernel
theorem dX8_parts_83 : decode cX8_parts 83 = .ok (.ifCond .lt 20, 3) := by decide +kernel
theorem dX8_parts_86 : decode cX8_parts 86 = .ok (.iload_n 3, 1) := by decide +kernel
theorem dX8_parts_87 : decode cX8_parts 87 = .ok (.aload_n 0, 1) := by decide +kernel
theorem dX8_parts_88 : decode cX8_parts 88 = .ok (.getfield 60, 3) := by decide +kernel
theorem dX8_parts_91 : decode cX8_parts 91 = .ok (.iload_n 1, 1) := by decide +kernel
theorem dX8_parts_92 : decode cX8_parts 92 = .ok (.iaload, 1) := by decide +kernel
theorem dX8_parts_93 : decode cX8_parts 93 = .ok (.iconst 2, 1) := by decide +kernel
theorem dX8_parts_94 : decode cX8_parts 94 = .ok (.iload 6, 2) := by decide +kernel
theorem dX8_parts_96 : decode cX8_parts 96 = .ok (.imul, 1) := by decide +kernel
theorem dX8_parts_97 : decode cX8_parts 97 = .ok (.isub, 1) := by decide +kernel
theorem dX8_parts_98 : decode cX8_parts 98 = .ok (.iconst 2, 1) := by decide +kernel
theorem dX8_parts_99 : decode cX8_parts 99 = .ok (.isub, 1) := by decide +kernel
theorem dX8_parts_100 : decode cX8_parts 100 = .ok (.if_icmp .le 6, 3) := by decide +kernel
theorem dX8_parts_103 : decode cX8_parts 103 = .ok (.bipush (-12), 2) := by decide +kernel
theorem dX8_parts_105 : decode cX8_parts 105 = .ok (.ireturn, 1) := by decide +kernel
theorem dX8_parts_106 : decode cX8_parts 106 = .ok (.bipush 40, 2) := by decide +kernel
theorem dX8_parts_108 : decode cX8_parts 108 = .ok (.iload_n 1, 1) := by decide +kernel
theorem dX8_parts_109 : decode cX8_parts 109 = .ok (.imul, 1) := by decide +kernel
theorem dX8_parts_110 : decode cX8_parts 110 = .ok (.iload_n 3, 1) := by decide +kernel
theorem dX8_parts_111 : decode cX8_parts 111 = .ok (.iadd, 1) := by decide +kernel
theorem dX8_parts_112 : decode cX8_parts 112 = .ok (.iconst 2, 1) := by decide +kernel
theorem dX8_parts_113 : decode cX8_parts 113 = .ok (.iload 6, 2) := by decide +kernel
theorem dX8_parts_115 : decode cX8_parts 115 = .ok (.imul, 1) := by decide +kernel
theorem dX8_parts_116 : decode cX8_parts 116 = .ok (.iadd, 1) := by decide +kernel
theorem dX8_parts_117 : decode cX8_parts 117 = .ok (.istore 7, 2) := by decide +kernel
theorem dX8_parts_119 : decode cX8_parts 119 = .ok (.iload 5, 2) := by decide +kernel
theorem dX8_parts_121 : decode cX8_parts 121 = .ok (.aload_n 0, 1) := by decide +kernel
theorem dX8_parts_122 : decode cX8_parts 122 = .ok (.aload_n 0, 1) := by decide +kernel
theorem dX8_parts_123 : decode cX8_parts 123 = .ok (.getfield 63, 3) := by decide +kernel
theorem dX8_parts_126 : decode cX8_parts 126 = .ok (.iload 7, 2) := by decide +kernel
theorem dX8_parts_128 : decode cX8_parts 128 = .ok (.iaload, 1) := by decide +kernel
theorem dX8_parts_129 : decode cX8_parts 129 = .ok (.aload_n 0, 1) := by decide +kernel
theorem dX8_parts_130 : decode cX8_parts 130 = .ok (.getfield 63, 3) := by decide +kernel
theorem dX8_parts_133 : decode cX8_parts 133 = .ok (.iload 7, 2) := by decide +kernel
theorem dX8_parts_135 : decode cX8_parts 135 = .ok (.iconst 1, 1) := by decide +kernel
theorem dX8_parts_136 : decode cX8_parts 136 = .ok (.iadd, 1) := by decide +kernel
theorem dX8_parts_137 : decode cX8_parts 137 = .ok (.iaload, 1) := by decide +kernel
theorem dX8_parts_138 : decode cX8_parts 138 = .ok (.invokevirtual 338, 3) := by decide +kernel
theorem dX8_parts_141 : decode cX8_parts 141 = .ok (.ifCond .lt 7, 3) := by decide +kernel
theorem dX8_parts_144 : decode cX8_parts 144 = .ok (.iconst 1, 1) := by decide +kernel
theorem dX8_parts_145 : decode cX8_parts 145 = .ok (.goto 4, 3) := by decide +kernel
theorem dX8_parts_148 : decode cX8_parts 148 = .ok (.iconst 0, 1) := by decide +kernel
theorem dX8_parts_149 : decode cX8_parts 149 = .ok (.iadd, 1) := by decide +kernel
theorem dX8_parts_150 : decode cX8_parts 150 = .ok (.istore 5, 2) := by decide +kernel
theorem dX8_parts_152 : decode cX8_parts 152 = .ok (.iinc 6 1, 3) := by decide +kernel
theorem dX8_parts_155 : decode cX8_parts 155 = .ok (.goto (-80), 3) := by decide +kernel
theorem dX8_parts_158 : decode cX8_parts 158 = .ok (.iload 5, 2) := by decide +kernel
theorem dX8_parts_160 : decode cX8_parts 160 = .ok (.ireturn, 1) := by decide +kernel
theorem dX8_over_0 : decode cX8_over 0 = .ok (.iload_n 0, 1) := by decide +kernel
theorem dX8_over_1 : decode cX8_over 1 = .ok (.ifCond .ne 7, 3) := by decide +kernel
theorem dX8_over_4 : decode cX8_over 4 = .ok (.iconst (-1), 1) := by decide +kernel
theorem dX8_over_5 : decode cX8_over 5 = .ok (.goto 22, 3) := by decide +kernel
theorem dX8_over_8 : decode cX8_over 8 = .ok (.iload_n 0, 1) := by decide +kernel
theorem dX8_over_9 : decode cX8_over 9 = .ok (.iconst 3, 1) := by decide +kernel
theorem dX8_over_10 : decode cX8_over 10 = .ok (.if_icmp .ne 7, 3) := by decide +kernel
theorem dX8_over_13 : decode cX8_over 13 = .ok (.iconst 1, 1) := by decide +kernel
theorem dX8_over_14 : decode cX8_over 14 = .ok (.goto 13, 3) := by decide +kernel
theorem dX8_over_17 : decode cX8_over 17 = .ok (.iload_n 0, 1) := by decide +kernel
theorem dX8_over_18 : decode cX8_over 18 = .ok (.iconst 4, 1) := by decide +kernel
theorem dX8_over_19 : decode cX8_over 19 = .ok (.if_icmp .ne 7, 3) := by decide +kernel
theorem dX8_over_22 : decode cX8_over 22 = .ok (.iconst 2, 1) := by decide +kernel
theorem dX8_over_23 : decode cX8_over 23 = .ok (.goto 4, 3) := by decide +kernel
theorem dX8_over_26 : decode cX8_over 26 = .ok (.iconst 0, 1) := by decide +kernel
theorem dX8_over_27 : decode cX8_over 27 = .ok (.ireturn, 1) := by decide +kernel
theorem dX8_taken_0 : decode cX8_taken 0 = .ok (.iload_n 2, 1) := by decide +kernel
theorem dX8_taken_1 : decode cX8_taken 1 = .ok (.i2l, 1) := by decide +kernel
theorem dX8_taken_2 : decode cX8_taken 2 = .ok (.lconst 0, 1) := by decide +kernel
theorem dX8_taken_3 : decode cX8_taken 3 = .ok (.ldc2_w 101, 3) := by decide +kernel
theorem dX8_taken_6 : decode cX8_taken 6 = .ok (.invokestatic 76, 3) := by decide +kernel
theorem dX8_taken_9 : decode cX8_taken 9 = .ok (.ifCond .ne 6, 3) := by decide +kernel
theorem dX8_taken_12 : decode cX8_taken 12 = .ok (.bipush (-2), 2) := by decide +kernel
theorem dX8_taken_14 : decode cX8_taken 14 = .ok (.ireturn, 1) := by decide +kernel
theorem dX8_taken_15 : decode cX8_taken 15 = .ok (.aload_n 0, 1) := by decide +kernel
theorem dX8_taken_16 : decode cX8_taken 16 = .ok (.iload_n 1, 1) := by decide +kernel
theorem dX8_taken_17 : decode cX8_taken 17 = .ok (.invokevirtual 82, 3) := by decide +kernel
theorem dX8_taken_20 : decode cX8_taken 20 = .ok (.ifCond .ne 6, 3) := by decide +kernel
theorem dX8_taken_23 : decode cX8_taken 23 = .ok (.bipush (-11), 2) := by decide +kernel
theorem dX8_taken_25 : decode cX8_taken 25 = .ok (.ireturn, 1) := by decide +kernel
theorem dX8_taken_26 : decode cX8_taken 26 = .ok (.aload_n 0, 1) := by decide +kernel
theorem dX8_taken_27 : decode cX8_taken 27 = .ok (.getfield 29, 3) := by decide +kernel
theorem dX8_taken_30 : decode cX8_taken 30 = .ok (.iload_n 1, 1) := by decide +kernel
theorem dX8_taken_31 : decode cX8_taken 31 = .ok (.iaload, 1) := by decide +kernel
theorem dX8_taken_32 : decode cX8_taken 32 = .ok (.istore_n 3, 1) := by decide +kernel
theorem dX8_taken_33 : decode cX8_taken 33 = .ok (.iload_n 3, 1) := by decide +kernel
theorem dX8_taken_34 : decode cX8_taken 34 = .ok (.iconst (-1), 1) := by decide +kernel
theorem dX8_taken_35 : decode cX8_taken 35 = .ok (.if_icmp .eq 16, 3) := by decide +kernel
theorem dX8_taken_38 : decode cX8_taken 38 = .ok (.iload_n 3, 1) := by decide +kernel
theorem dX8_taken_39 : decode cX8_taken 39 = .ok (.iload_n 2, 1) := by decide +kernel
theorem dX8_taken_40 : decode cX8_taken 40 = .ok (.if_icmp .eq 11, 3) := by decide +kernel
theorem dX8_taken_43 : decode cX8_taken 43 = .ok (.iload_n 3, 1) := by decide +kernel
theorem dX8_taken_44 : decode cX8_taken 44 = .ok (.invokestatic 340, 3) := by decide +kernel
theorem dX8_taken_47 : decode cX8_taken 47 = .ok (.istore_n 3, 1) := by decide +kernel
theorem dX8_taken_48 : decode cX8_taken 48 = .ok (.goto (-15), 3) := by decide +kernel
theorem dX8_taken_51 : decode cX8_taken 51 = .ok (.iload_n 3, 1) := by decide +kernel
theorem dX8_taken_52 : decode cX8_taken 52 = .ok (.iload_n 2, 1) := by decide +kernel
theorem dX8_taken_53 : decode cX8_taken 53 = .ok (.if_icmp .ne 14, 3) := by decide +kernel
theorem dX8_taken_56 : decode cX8_taken 56 = .ok (.aload_n 0, 1) := by decide +kernel
theorem dX8_taken_57 : decode cX8_taken 57 = .ok (.getfield 32, 3) := by decide +kernel
theorem dX8_taken_60 : decode cX8_taken 60 = .ok (.iconst 3, 1) := by decide +kernel
theorem dX8_taken_61 : decode cX8_taken 61 = .ok (.iload_n 1, 1) := by decide +kernel
theorem dX8_taken_62 : decode cX8_taken 62 = .ok (.imul, 1) := by decide +kernel
theorem dX8_taken_63 : decode cX8_taken 63 = .ok (.iaload, 1) := by decide +kernel
theorem dX8_taken_64 : decode cX8_taken 64 = .ok (.goto 5, 3) := by decide +kernel
theorem dX8_taken_67 : decode cX8_taken 67 = .ok (.bipush (-13), 2) := by decide +kernel
theorem dX8_taken_69 : decode cX8_taken 69 = .ok (.ireturn, 1) := by decide +kernel
end
section
/-! ===== the abstract machine: cells by their number, references as numbers of cells ===== -/
abbrev AE : Type := (Nat × vp_A) ⊕ (Nat × List Value)
def q_v (ad : Nat → Nat) : Value → Value := fun v => match v with
  | .ref k => .ref (ad k)
  | w => w
theorem q_v_cat (ad : Nat → Nat) (v : Value) : (q_v ad v).category = v.category := by cases v <;> rfl
def q_a (ad : Nat → Nat) : vp_A → vp_A := fun a => match a with
  | (n, .inr (.inr (.inr (.inr g)))) => (n, .inr (.inr (.inr (.inr (fun i => (g i).map ad)))))
  | w => w
def q_e (cT : Nat → ClassId) (ad : Nat → Nat) : AE → va_E := fun e => match e with
  | .inl (t, x) => .inl (cT t, q_a ad x)
  | .inr (ci, fs) => .inr (ci, fs.map (q_v ad))
/-- the heap holds the cells M, one behind the other from B on, and ends with them -/
def q_W (D : va_G) (cT : Nat → ClassId) (ad : Nat → Nat) (B : Nat) (M : List AE) (H : Heap) : Prop :=
  H.size = B + M.length ∧ M.length ≤ 100000 ∧ ∀ (k : Nat) (e : AE), M[k]? = some e → va_at D vwCl (B + k, q_e cT ad e) H
def q_tys (cT : Nat → ClassId) : List (ClassId × FieldType) := [(cT 0, .int), (cT 1, .boolean), (cT 2, .array .int)]
def q_AD (ad : Nat → Nat) (B : Nat) : Prop := ∀ k, k < 100000 → ad k = B + k
/-! the static arrays and the texts -/
def s_F : Nat → String × String := fun i => match i with
  | 0 => ("CreasedAgain", "MOST")
  | 1 => ("CreasedAgain$Kinds", "OVER")
  | 2 => ("CreasedAgain$Texts", "FIRST")
  | 3 => ("CreasedAgain$Texts", "FIRST_START")
  | _ => ("CreasedAgain$Texts", "MOST_TOLD")
def s_L : Nat → List Int32 := fun i => match i with
  | 0 => [9, 99, 9, 99, 127, 5]
  | 1 => [-1, 0, 0, 1, 2, 0]
  | 2 => [9, 10002, 10013, 10019, 2, 10019, 4, 10019]
  | 3 => [0, 4, 6]
  | _ => [99, 30, 99]
def s_N (i : Nat) : Nat := (s_L i).length
def s_V (i j : Nat) : Int32 := (s_L i).getD j 0
def k_idx : Nat → Nat := fun i => [90, 96, 98, 100, 102, 104, 106, 108, 110, 112, 114, 116].getD i 0
def k_txt : Nat → String := fun i => ["minute", "damp", "heat", "number", "crease", "part", "irons", "takes", "crumples", "or", "and", "not"].getD i ""
def k_byt : List (List Int32) := [[109, 105, 110, 117, 116, 101], [100, 97, 109, 112], [104, 101, 97, 116], [110, 117, 109, 98, 101, 114], [99, 114, 101, 97, 115, 101], [112, 97, 114, 116], [105, 114, 111, 110, 115], [116, 97, 107, 101, 115], [99, 114, 117, 109, 112, 108, 101, 115], [111, 114], [97, 110, 100], [110, 111, 116]]
def k_len : List Nat := [6, 4, 4, 6, 6, 4, 5, 5, 8, 2, 3, 3]
def q_A (B : Nat) : Nat → Prop := fun q => B ≤ q
def q_S (ad : Nat → Nat) (B : Nat) (U : State) (H : Heap) : Prop :=
  (∀ i, i < 5 → va_Z (s_F i).1 (s_F i).2 "[I" (.ref (ad (100000 + i))) (q_A B) U H ∧ va_T .int (ad (100000 + i)) (s_N i) (fun j => .int (s_V i j)) (q_A B) U H) ∧
  vk_S 12 k_len k_byt (fun i => ad (100010 + i)) (fun i => ad (100030 + i)) (q_A B) U H ∧
  (∀ i, i < 12 → vk_R RX2 (k_idx i) (k_txt i) (ad (100010 + i)) U) ∧
  va_Z "java/lang/String" "COMPACT_STRINGS" "Z" (.int 1) (q_A B) U H ∧
  va_Zq "jdk/internal/util/Preconditions" "SIOOBE_FORMATTER" "Ljava/util/function/BiFunction;" (q_A B) U H
theorem q_S.go {ad : Nat → Nat} {B : Nat} {s U : State} {H : Heap} {locs : List Loc} (h : q_S ad B s s.heap) (hW : s.WarmedH U.vm) (hS : va_S (q_A B) s.heap H locs) : q_S ad B U H := by
  obtain ⟨h1, h2, h3, h4, h5⟩ := h
  have hal := hW.alike
  refine ⟨fun i hi => ⟨((h1 i hi).1.moved hal).kept hS.2.1, ((h1 i hi).2.moved hal).kept hS.2.1⟩, (h2.moved hal).kept hS.2.1, fun i hi => (h3 i hi).warm hW, (h4.moved hal).kept hS.2.1, (h5.moved hal).kept hS.2.1⟩
theorem q_S.calls {ad : Nat → Nat} {B : Nat} {U : State} {H : Heap} {g : JFrame} {mk : MethodId} {a : Array Value} (h : q_S ad B U H) : q_S ad B (U.calling g mk a) H := by
  obtain ⟨h1, h2, h3, h4, h5⟩ := h
  have hal : U.vm.Alike (U.calling g mk a).vm := Vm.Alike.refl U.vm
  refine ⟨fun i hi => ⟨((h1 i hi).1.moved hal), ((h1 i hi).2.moved hal)⟩, (h2.moved hal), fun i hi => (h3 i hi).same rfl, (h4.moved hal), (h5.moved hal)⟩
/-! locals -/
def q_l (ad : Nat → Nat) : Nat → List (Option Value) → List (Nat × Value)
  | _, [] => []
  | i, none :: r => q_l ad (i + 1) r
  | i, some v :: r => (i, q_v ad v) :: q_l ad (i + 1) r
theorem q_l_in {ad : Nat → Nat} {L : List (Option Value)} {i : Nat} {q : Nat × Value} : q ∈ q_l ad i L ↔ ∃ (j : Nat) (v : Value), L[j]? = some (some v) ∧ q = (i + j, q_v ad v) := by
  induction L generalizing i with
  | nil => simp [q_l]
  | cons x r ih =>
    cases x with
    | none =>
      rw [q_l, ih]
      constructor
      · rintro ⟨j, v, h, rfl⟩
        exact ⟨j + 1, v, by simpa using h, by rw [show i + 1 + j = i + (j + 1) by omega]⟩
      · rintro ⟨j, v, h, rfl⟩
        cases j with
        | zero => simp at h
        | succ j => exact ⟨j, v, by simpa using h, by rw [show i + 1 + j = i + (j + 1) by omega]⟩
    | some w =>
      rw [q_l, List.mem_cons, ih]
      constructor
      · rintro (rfl | ⟨j, v, h, rfl⟩)
        · exact ⟨0, w, by simp, rfl⟩
        · exact ⟨j + 1, v, by simpa using h, by rw [show i + 1 + j = i + (j + 1) by omega]⟩
      · rintro ⟨j, v, h, rfl⟩
        cases j with
        | zero =>
          have : w = v := by simpa using h
          subst this
          exact Or.inl rfl
        | succ j => exact Or.inr ⟨j, v, by simpa using h, by rw [show i + 1 + j = i + (j + 1) by omega]⟩
theorem q_l_at {ad : Nat → Nat} {L : List (Option Value)} {ls : Array Slot} {nL j : Nat} {v : Value} (h : lv_has ls nL (q_l ad 0 L)) (hj : L[j]? = some (some v)) : ls[j]? = some (.val (q_v ad v)) :=
  h.2.2 (j, q_v ad v) (q_l_in.mpr ⟨j, v, hj, by rw [Nat.zero_add]⟩)
def q_nl (L : List (Option Value)) : Nat → Bool
  | 0 => true
  | i + 1 => match L[i]? with
    | some (some v) => v.category == 1
    | _ => true
theorem q_l_set1 {ad : Nat → Nat} {L : List (Option Value)} {ls' : Array Slot} {nL i : Nat} {v : Value} (hn : q_nl L i = true)
    (h : lv_has ls' nL ((i, q_v ad v) :: (q_l ad 0 L).filter (fun q => !(q.1 == i) && !(q.1 + 1 == i && q.2.category == 2)))) : lv_has ls' nL (q_l ad 0 (L.set i (some v))) := by
  refine ⟨h.1, h.2.1, fun q hq => ?_⟩
  obtain ⟨j, w, hj, rfl⟩ := q_l_in.mp hq
  rw [Nat.zero_add]
  rw [List.getElem?_set] at hj
  by_cases e : i = j
  · subst e
    rw [if_pos rfl] at hj
    split at hj
    · cases hj
      exact h.2.2 (i, q_v ad v) List.mem_cons_self
    · cases hj
  · rw [if_neg e] at hj
    refine h.2.2 (j, q_v ad w) (List.mem_cons_of_mem _ (List.mem_filter.mpr ⟨q_l_in.mpr ⟨j, w, hj, by rw [Nat.zero_add]⟩, ?_⟩))
    have e' : ¬ j = i := fun q => e q.symm
    simp only [Bool.and_eq_true, Bool.not_eq_true', beq_eq_false_iff_ne, ne_eq, e', not_false_eq_true, true_and]
    by_cases e2 : j + 1 = i
    · subst e2
      simp only [q_nl, hj] at hn
      simp only [q_v_cat]
      have : w.category = 1 := by simpa using hn
      simp [this]
    · simp [e2]
theorem q_l_set2 {ad : Nat → Nat} {L : List (Option Value)} {ls' : Array Slot} {nL i : Nat} {v : Value} (hn : q_nl L i = true)
    (h : lv_has ls' nL ((i, q_v ad v) :: (q_l ad 0 L).filter (fun q => !(q.1 == i) && (!(q.1 == i + 1) && !(q.1 + 1 == i && q.2.category == 2))))) : lv_has ls' nL (q_l ad 0 ((L.set i (some v)).set (i + 1) none)) := by
  refine ⟨h.1, h.2.1, fun q hq => ?_⟩
  obtain ⟨j, w, hj, rfl⟩ := q_l_in.mp hq
  rw [Nat.zero_add]
  rw [List.getElem?_set] at hj
  by_cases e3 : i + 1 = j
  · rw [if_pos e3] at hj
    split at hj <;> cases hj
  · rw [if_neg e3, List.getElem?_set] at hj
    by_cases e : i = j
    · subst e
      rw [if_pos rfl] at hj
      split at hj
      · cases hj
        exact h.2.2 (i, q_v ad v) List.mem_cons_self
      · cases hj
    · rw [if_neg e] at hj
      refine h.2.2 (j, q_v ad w) (List.mem_cons_of_mem _ (List.mem_filter.mpr ⟨q_l_in.mpr ⟨j, w, hj, by rw [Nat.zero_add]⟩, ?_⟩))
      have e' : ¬ j = i := fun q => e q.symm
      have e3' : ¬ j = i + 1 := fun q => e3 q.symm
      simp only [Bool.and_eq_true, Bool.not_eq_true', beq_eq_false_iff_ne, ne_eq, e', e3', not_false_eq_true, true_and]
      by_cases e2 : j + 1 = i
      · subst e2
        simp only [q_nl, hj] at hn
        simp only [q_v_cat]
        have : w.category = 1 := by simpa using hn
        simp [this]
      · simp [e2]
/-- the locals with which a method begins -/
def q_args : List Value → List (Option Value)
  | [] => []
  | v :: r => if v.category = 2 then some v :: none :: q_args r else some v :: q_args r
theorem q_args_l (ad : Nat → Nat) (vs : List Value) : ∀ (i : Nat) (n : Nat), q_l ad i (q_args vs ++ List.replicate n none) = lv_args i (vs.map (q_v ad)) := by
  induction vs with
  | nil =>
    intro i n
    show q_l ad i ([] ++ List.replicate n none) = []
    rw [List.nil_append]
    induction n generalizing i with
    | zero => rfl
    | succ n ih => rw [List.replicate_succ, q_l, ih]
  | cons v r ih =>
    intro i n
    by_cases h : v.category = 2
    · rw [q_args, if_pos h]
      show (i, q_v ad v) :: q_l ad (i + 1 + 1) (q_args r ++ List.replicate n none) = (i, q_v ad v) :: lv_args (if (q_v ad v).category = 2 then i + 2 else i + 1) (r.map (q_v ad))
      rw [q_v_cat, if_pos h, ih]
    · rw [q_args, if_neg h]
      show (i, q_v ad v) :: q_l ad (i + 1) (q_args r ++ List.replicate n none) = (i, q_v ad v) :: lv_args (if (q_v ad v).category = 2 then i + 2 else i + 1) (r.map (q_v ad))
      rw [q_v_cat, if_neg h, ih]
end
section
/-! ===== the abstract machine: its judgement, and the rows that touch no cell ===== -/
def q_end (cc : ByteArray) (ret : Option FieldType) (pc : Nat) (o : Option Value) (st : List Value) : Prop :=
  (∃ (v : Int32) (ty : FieldType), o = some (.int v) ∧ st = [.int v] ∧ ret = some ty ∧ narrow ty (.int v) = .int v ∧ decode cc pc = .ok (.ireturn, 1)) ∨
  (∃ v : Int64, o = some (.long v) ∧ st = [.long v] ∧ ret = some .long ∧ decode cc pc = .ok (.lreturn, 1)) ∨
  (∃ k : Nat, o = some (.ref k) ∧ st = [.ref k] ∧ (∃ t, ret = some (.array t)) ∧ decode cc pc = .ok (.areturn, 1)) ∨
  (o = none ∧ st = [] ∧ ret = none ∧ decode cc pc = .ok (.return_, 1))
def q_C (own : String) (cc : ByteArray) (nL : Nat) (ini : Bool) (d : Nat) (ad : Nat → Nat) (B : Nat) (D : va_G) (cT : Nat → ClassId) (p : Program) (R : Room) (s : State) (m : MethodId) (args : Array Value) (meth : Method) (c : Code) : Prop :=
  p.tables.exec = Jvm.exec ∧ c.code = cc ∧ c.maxLocals = nL ∧ s.vm.findClass own = some m.cls ∧ (∀ w ∈ lw_tbl, w.before args s = true) ∧ (ini = true → meth.name = "<init>") ∧ (d ≤ R.frames ∧ 40 * d ≤ R.locals) ∧ q_AD ad B ∧ B ≤ s.heap.size ∧ va_K D vwCl (q_tys cT) s ∧ q_S ad B s s.heap
def q_R {X : Type} (emb : X → Option Value) (cc : ByteArray) (ret : Option FieldType) (post : X → List AE → Prop) (ct sl : Nat) (ad : Nat → Nat) (B : Nat) (D : va_G) (cT : Nat → ClassId) (p : Program) (l : Launch) (e : Env) (R : Room) (s : State) (m : MethodId) (args : Array Value) (below : List Frame) (meth : Method) (c : Code) (Q : State → Prop) : Prop :=
  ∀ (x : X) (M' : List AE) (H' : Heap) (locs' : List Loc) (cells' slots' pc' : Nat) (ls' : Array Slot) (st' : List Value), post x M' → va_S (q_A B) s.heap H' locs' → q_W D cT ad B M' H' → cells' ≤ ct → slots' ≤ sl → q_end cc ret pc' (emb x) st' → W p l e R s m args below meth c H' locs' cells' slots' Q (F0 m pc' ls' (st'.map (q_v ad)))
/-- from the frame (pc, L, st) over the cells M the method comes to its end with post; kc, ks: what it may still make; d: how deep it may still call -/
def WG {X : Type} (emb : X → Option Value) (own : String) (cc : ByteArray) (nL : Nat) (ret : Option FieldType) (ini : Bool) (d : Nat) (post : X → List AE → Prop) (kc ks pc : Nat) (L : List (Option Value)) (st : List Value) (M : List AE) : Prop :=
  ∀ (p : Program) (l : Launch) (e : Env) (R : Room) (s : State) (m : MethodId) (args : Array Value) (below : List Frame) (meth : Method) (c : Code) (H : Heap) (locs : List Loc) (cells slots : Nat) (Q : State → Prop) (ad : Nat → Nat) (B : Nat) (D : va_G) (cT : Nat → ClassId) (ls : Array Slot) (ct sl : Nat),
    q_C own cc nL ini d ad B D cT p R s m args meth c → q_R emb cc ret post ct sl ad B D cT p l e R s m args below meth c Q → cells + kc ≤ ct → slots + ks ≤ sl → ct ≤ R.cells → sl ≤ R.slots → va_S (q_A B) s.heap H locs → q_W D cT ad B M H → lv_has ls nL (q_l ad 0 L) → W p l e R s m args below meth c H locs cells slots Q (F0 m pc ls (st.map (q_v ad)))
section QG
variable {X : Type} {emb : X → Option Value} {own : String} {cc : ByteArray} {nL : Nat} {ret : Option FieldType} {ini : Bool} {d : Nat} {post : X → List AE → Prop} {kc ks pc : Nat} {L : List (Option Value)} {st : List Value} {M : List AE}
theorem WG.lift {pc' : Nat} {st' : List Value} (h : ∀ {p : Program} {l : Launch} {e : Env} {R : Room} {s : State} {m : MethodId} {args : Array Value} {below : List Frame} {meth : Method} {c : Code} {H : Heap} {locs : List Loc} {cells slots : Nat} {Q : State → Prop} {ad : Nat → Nat} {ls : Array Slot}, p.tables.exec = Jvm.exec → c.code = cc → lv_has ls nL (q_l ad 0 L) → W p l e R s m args below meth c H locs cells slots Q (F0 m pc' ls (st'.map (q_v ad))) → W p l e R s m args below meth c H locs cells slots Q (F0 m pc ls (st.map (q_v ad)))) (k : WG emb own cc nL ret ini d post kc ks pc' L st' M) : WG emb own cc nL ret ini d post kc ks pc L st M := by
  intro p l e R s m args below meth c H locs cells slots Q ad B D cT ls ct sl hC hR h1 h2 h3 h4 hS hW hl
  exact h hC.1 hC.2.1 hl (k p l e R s m args below meth c H locs cells slots Q ad B D cT ls ct sl hC hR h1 h2 h3 h4 hS hW hl)
theorem WG.liftO {pc' : Nat} {st' : List Value} (h : ∀ {p : Program} {l : Launch} {e : Env} {R : Room} {s : State} {m : MethodId} {args : Array Value} {below : List Frame} {meth : Method} {c : Code} {H : Heap} {locs : List Loc} {cells slots : Nat} {Q : State → Prop} {ad : Nat → Nat} {ls : Array Slot}, p.tables.exec = Jvm.exec → c.code = cc → s.vm.findClass own = some m.cls → (∀ w ∈ lw_tbl, w.before args s = true) → W p l e R s m args below meth c H locs cells slots Q (F0 m pc' ls (st'.map (q_v ad))) → W p l e R s m args below meth c H locs cells slots Q (F0 m pc ls (st.map (q_v ad)))) (k : WG emb own cc nL ret ini d post kc ks pc' L st' M) : WG emb own cc nL ret ini d post kc ks pc L st M := by
  intro p l e R s m args below meth c H locs cells slots Q ad B D cT ls ct sl hC hR h1 h2 h3 h4 hS hW hl
  exact h hC.1 hC.2.1 hC.2.2.2.1 hC.2.2.2.2.1 (k p l e R s m args below meth c H locs cells slots Q ad B D cT ls ct sl hC hR h1 h2 h3 h4 hS hW hl)
/-- other locals of which no more is said -/
theorem WG.locals {L' : List (Option Value)} (h : ∀ (j : Nat) (v : Value), L'[j]? = some (some v) → L[j]? = some (some v)) (k : WG emb own cc nL ret ini d post kc ks pc L' st M) : WG emb own cc nL ret ini d post kc ks pc L st M := by
  intro p l e R s m args below meth c H locs cells slots Q ad B D cT ls ct sl hC hR h1 h2 h3 h4 hS hW hl
  refine k p l e R s m args below meth c H locs cells slots Q ad B D cT ls ct sl hC hR h1 h2 h3 h4 hS hW ⟨hl.1, hl.2.1, fun q hq => ?_⟩
  obtain ⟨j, v, hj, rfl⟩ := q_l_in.mp hq
  exact hl.2.2 _ (q_l_in.mpr ⟨j, v, h j v hj, rfl⟩)
theorem g_iconst {n : Int} {v : Int32} (hd : decode cc pc = .ok (.iconst n, 1)) (hv : Int32.ofInt n = v) (k : WG emb own cc nL ret ini d post kc ks (pc + 1) L (.int v :: st) M) : WG emb own cc nL ret ini d post kc ks pc L st M := WG.lift (fun hx hb _ w => lv_iconst hx hb hd hv w) k
theorem g_bipush {n : Int} {v : Int32} (hd : decode cc pc = .ok (.bipush n, 2)) (hv : (Int8.ofInt n).toInt32 = v) (k : WG emb own cc nL ret ini d post kc ks (pc + 2) L (.int v :: st) M) : WG emb own cc nL ret ini d post kc ks pc L st M := WG.lift (fun hx hb _ w => lv_bipush hx hb hd hv w) k
theorem g_sipush {n : Int} {v : Int32} (hd : decode cc pc = .ok (.sipush n, 3)) (hv : (Int16.ofInt n).toInt32 = v) (k : WG emb own cc nL ret ini d post kc ks (pc + 3) L (.int v :: st) M) : WG emb own cc nL ret ini d post kc ks pc L st M := WG.lift (fun hx hb _ w => lv_sipush hx hb hd hv w) k
theorem g_lconst {n : Fin 2} {v : Int64} (hd : decode cc pc = .ok (.lconst n, 1)) (hv : Int64.ofNat (n : Nat) = v) (k : WG emb own cc nL ret ini d post kc ks (pc + 1) L (.long v :: st) M) : WG emb own cc nL ret ini d post kc ks pc L st M := WG.lift (fun hx hb _ w => lv_lconst hx hb hd hv w) k
theorem g_ldc {i : Nat} {v : Int32} (hd : decode cc pc = .ok (.ldc i, 2)) (hc : Cond.constant own i v ∈ lw_tbl) (k : WG emb own cc nL ret ini d post kc ks (pc + 2) L (.int v :: st) M) : WG emb own cc nL ret ini d post kc ks pc L st M := WG.liftO (fun hx hb ho ht w => lv_ldc hx hb ho (ht _ hc) hd w) k
theorem g_ldcw {i : Nat} {v : Int32} (hd : decode cc pc = .ok (.ldc_w i, 3)) (hc : Cond.constant own i v ∈ lw_tbl) (k : WG emb own cc nL ret ini d post kc ks (pc + 3) L (.int v :: st) M) : WG emb own cc nL ret ini d post kc ks pc L st M := WG.liftO (fun hx hb ho ht w => lv_ldcw hx hb ho (ht _ hc) hd w) k
theorem g_ldc2 {i : Nat} {v : Int64} (hd : decode cc pc = .ok (.ldc2_w i, 3)) (hc : Cond.constantLong own i v ∈ lw_tbl) (k : WG emb own cc nL ret ini d post kc ks (pc + 3) L (.long v :: st) M) : WG emb own cc nL ret ini d post kc ks pc L st M := WG.liftO (fun hx hb ho ht w => lv_ldc2 hx hb ho (ht _ hc) hd w) k
theorem g_iload_n {i : Fin 4} {x : Int32} (hd : decode cc pc = .ok (.iload_n i, 1)) (hj : L[(i : Nat)]? = some (some (.int x))) (k : WG emb own cc nL ret ini d post kc ks (pc + 1) L (.int x :: st) M) : WG emb own cc nL ret ini d post kc ks pc L st M := WG.lift (fun hx hb hl w => lv_iload_n hx hb hd rfl (q_l_at hl hj) w) k
theorem g_iload {i : Nat} {x : Int32} (hd : decode cc pc = .ok (.iload i, 2)) (hj : L[i]? = some (some (.int x))) (k : WG emb own cc nL ret ini d post kc ks (pc + 2) L (.int x :: st) M) : WG emb own cc nL ret ini d post kc ks pc L st M := WG.lift (fun hx hb hl w => lv_iload hx hb hd (q_l_at hl hj) w) k
theorem g_lload_n {i : Fin 4} {x : Int64} (hd : decode cc pc = .ok (.lload_n i, 1)) (hj : L[(i : Nat)]? = some (some (.long x))) (k : WG emb own cc nL ret ini d post kc ks (pc + 1) L (.long x :: st) M) : WG emb own cc nL ret ini d post kc ks pc L st M := WG.lift (fun hx hb hl w => lv_lload_n hx hb hd rfl (q_l_at hl hj) w) k
theorem g_lload {i : Nat} {x : Int64} (hd : decode cc pc = .ok (.lload i, 2)) (hj : L[i]? = some (some (.long x))) (k : WG emb own cc nL ret ini d post kc ks (pc + 2) L (.long x :: st) M) : WG emb own cc nL ret ini d post kc ks pc L st M := WG.lift (fun hx hb hl w => lv_lload hx hb hd (q_l_at hl hj) w) k
theorem g_aload_n {i : Fin 4} {x : Nat} (hd : decode cc pc = .ok (.aload_n i, 1)) (hj : L[(i : Nat)]? = some (some (.ref x))) (k : WG emb own cc nL ret ini d post kc ks (pc + 1) L (.ref x :: st) M) : WG emb own cc nL ret ini d post kc ks pc L st M := WG.lift (fun hx hb hl w => lv_aload_n hx hb hd rfl (q_l_at hl hj) w) k
theorem g_aload {i : Nat} {x : Nat} (hd : decode cc pc = .ok (.aload i, 2)) (hj : L[i]? = some (some (.ref x))) (k : WG emb own cc nL ret ini d post kc ks (pc + 2) L (.ref x :: st) M) : WG emb own cc nL ret ini d post kc ks pc L st M := WG.lift (fun hx hb hl w => lv_aload hx hb hd (q_l_at hl hj) w) k

theorem g_iadd {x y : Int32} (hd : decode cc pc = .ok (.iadd, 1)) (k : WG emb own cc nL ret ini d post kc ks (pc + 1) L (.int (x + y) :: st) M) : WG emb own cc nL ret ini d post kc ks pc L (.int y :: .int x :: st) M := WG.lift (fun hx hb _ w => lv_iadd hx hb hd w) k
theorem g_isub {x y : Int32} (hd : decode cc pc = .ok (.isub, 1)) (k : WG emb own cc nL ret ini d post kc ks (pc + 1) L (.int (x - y) :: st) M) : WG emb own cc nL ret ini d post kc ks pc L (.int y :: .int x :: st) M := WG.lift (fun hx hb _ w => lv_isub hx hb hd w) k
theorem g_imul {x y : Int32} (hd : decode cc pc = .ok (.imul, 1)) (k : WG emb own cc nL ret ini d post kc ks (pc + 1) L (.int (x * y) :: st) M) : WG emb own cc nL ret ini d post kc ks pc L (.int y :: .int x :: st) M := WG.lift (fun hx hb _ w => lv_imul hx hb hd w) k
theorem g_iand {x y : Int32} (hd : decode cc pc = .ok (.iand, 1)) (k : WG emb own cc nL ret ini d post kc ks (pc + 1) L (.int (x &&& y) :: st) M) : WG emb own cc nL ret ini d post kc ks pc L (.int y :: .int x :: st) M := WG.lift (fun hx hb _ w => lv_iand hx hb hd w) k
theorem g_ior {x y : Int32} (hd : decode cc pc = .ok (.ior, 1)) (k : WG emb own cc nL ret ini d post kc ks (pc + 1) L (.int (x ||| y) :: st) M) : WG emb own cc nL ret ini d post kc ks pc L (.int y :: .int x :: st) M := WG.lift (fun hx hb _ w => lv_ior hx hb hd w) k
theorem g_ixor {x y : Int32} (hd : decode cc pc = .ok (.ixor, 1)) (k : WG emb own cc nL ret ini d post kc ks (pc + 1) L (.int (x ^^^ y) :: st) M) : WG emb own cc nL ret ini d post kc ks pc L (.int y :: .int x :: st) M := WG.lift (fun hx hb _ w => lv_ixor hx hb hd w) k
theorem g_ladd {x y : Int64} (hd : decode cc pc = .ok (.ladd, 1)) (k : WG emb own cc nL ret ini d post kc ks (pc + 1) L (.long (x + y) :: st) M) : WG emb own cc nL ret ini d post kc ks pc L (.long y :: .long x :: st) M := WG.lift (fun hx hb _ w => lv_ladd hx hb hd w) k
theorem g_lsub {x y : Int64} (hd : decode cc pc = .ok (.lsub, 1)) (k : WG emb own cc nL ret ini d post kc ks (pc + 1) L (.long (x - y) :: st) M) : WG emb own cc nL ret ini d post kc ks pc L (.long y :: .long x :: st) M := WG.lift (fun hx hb _ w => lv_lsub hx hb hd w) k
theorem g_lmul {x y : Int64} (hd : decode cc pc = .ok (.lmul, 1)) (k : WG emb own cc nL ret ini d post kc ks (pc + 1) L (.long (x * y) :: st) M) : WG emb own cc nL ret ini d post kc ks pc L (.long y :: .long x :: st) M := WG.lift (fun hx hb _ w => lv_lmul hx hb hd w) k
theorem g_idiv {x y : Int32} (hd : decode cc pc = .ok (.idiv, 1)) (hne : ¬ y = 0) (k : WG emb own cc nL ret ini d post kc ks (pc + 1) L (.int (x / y) :: st) M) : WG emb own cc nL ret ini d post kc ks pc L (.int y :: .int x :: st) M := WG.lift (fun hx hb _ w => lv_idiv hx hb hd hne w) k
theorem g_irem {x y : Int32} (hd : decode cc pc = .ok (.irem, 1)) (hne : ¬ y = 0) (k : WG emb own cc nL ret ini d post kc ks (pc + 1) L (.int (x - x / y * y) :: st) M) : WG emb own cc nL ret ini d post kc ks pc L (.int y :: .int x :: st) M := WG.lift (fun hx hb _ w => lv_irem hx hb hd hne w) k
theorem g_ldiv {x y : Int64} (hd : decode cc pc = .ok (.ldiv, 1)) (hne : ¬ y = 0) (k : WG emb own cc nL ret ini d post kc ks (pc + 1) L (.long (x / y) :: st) M) : WG emb own cc nL ret ini d post kc ks pc L (.long y :: .long x :: st) M := WG.lift (fun hx hb _ w => lv_ldiv hx hb hd hne w) k
theorem g_lrem {x y : Int64} (hd : decode cc pc = .ok (.lrem, 1)) (hne : ¬ y = 0) (k : WG emb own cc nL ret ini d post kc ks (pc + 1) L (.long (x - x / y * y) :: st) M) : WG emb own cc nL ret ini d post kc ks pc L (.long y :: .long x :: st) M := WG.lift (fun hx hb _ w => lv_lrem hx hb hd hne w) k
theorem g_ineg {x : Int32} (hd : decode cc pc = .ok (.ineg, 1)) (k : WG emb own cc nL ret ini d post kc ks (pc + 1) L (.int (-x) :: st) M) : WG emb own cc nL ret ini d post kc ks pc L (.int x :: st) M := WG.lift (fun hx hb _ w => lv_ineg hx hb hd w) k
theorem g_iushr {x y v : Int32} (hd : decode cc pc = .ok (.iushr, 1)) (hv : (x.toUInt32 >>> (y.toUInt32 &&& Int32.toUInt32 31)).toInt32 = v) (k : WG emb own cc nL ret ini d post kc ks (pc + 1) L (.int v :: st) M) : WG emb own cc nL ret ini d post kc ks pc L (.int y :: .int x :: st) M := WG.lift (fun hx hb _ w => lv_iushr hx hb hd hv w) k
theorem g_i2l {x : Int32} {v : Int64} (hd : decode cc pc = .ok (.i2l, 1)) (hv : x.toInt64 = v) (k : WG emb own cc nL ret ini d post kc ks (pc + 1) L (.long v :: st) M) : WG emb own cc nL ret ini d post kc ks pc L (.int x :: st) M := WG.lift (fun hx hb _ w => lv_i2l hx hb hd hv w) k
theorem g_l2i {x : Int64} {v : Int32} (hd : decode cc pc = .ok (.l2i, 1)) (hv : x.toInt32 = v) (k : WG emb own cc nL ret ini d post kc ks (pc + 1) L (.int v :: st) M) : WG emb own cc nL ret ini d post kc ks pc L (.long x :: st) M := WG.lift (fun hx hb _ w => lv_l2i hx hb hd hv w) k
theorem g_i2b {x : Int32} {v : Int32} (hd : decode cc pc = .ok (.i2b, 1)) (hv : x.toInt8.toInt32 = v) (k : WG emb own cc nL ret ini d post kc ks (pc + 1) L (.int v :: st) M) : WG emb own cc nL ret ini d post kc ks pc L (.int x :: st) M := WG.lift (fun hx hb _ w => lv_i2b hx hb hd hv w) k
theorem g_i2s {x : Int32} {v : Int32} (hd : decode cc pc = .ok (.i2s, 1)) (hv : x.toInt16.toInt32 = v) (k : WG emb own cc nL ret ini d post kc ks (pc + 1) L (.int v :: st) M) : WG emb own cc nL ret ini d post kc ks pc L (.int x :: st) M := WG.lift (fun hx hb _ w => lv_i2s hx hb hd hv w) k
theorem g_goto {off : Int} {tgt : Nat} (hd : decode cc pc = .ok (.goto off, 3)) (ht : (pc : Int) + off = (tgt : Int)) (k : WG emb own cc nL ret ini d post kc ks tgt L st M) : WG emb own cc nL ret ini d post kc ks pc L st M := WG.lift (fun hx hb _ w => lv_goto hx hb hd ht w) k
theorem g_pop {v : Value} (hd : decode cc pc = .ok (.pop, 1)) (hv : v.category = 1) (k : WG emb own cc nL ret ini d post kc ks (pc + 1) L st M) : WG emb own cc nL ret ini d post kc ks pc L (v :: st) M := WG.lift (fun {p l e R s m args below meth c H locs cells slots Q ad ls} hx hb _ w => lv_pop hx hb hd ((q_v_cat ad v).trans hv) w) k
theorem g_dup {v : Value} (hd : decode cc pc = .ok (.dup, 1)) (hv : v.category = 1) (k : WG emb own cc nL ret ini d post kc ks (pc + 1) L (v :: v :: st) M) : WG emb own cc nL ret ini d post kc ks pc L (v :: st) M := WG.lift (fun {p l e R s m args below meth c H locs cells slots Q ad ls} hx hb _ w => lv_dup hx hb hd ((q_v_cat ad v).trans hv) w) k
theorem g_dup_x1 {v u : Value} (hd : decode cc pc = .ok (.dup_x1, 1)) (hv : v.category = 1) (hu : u.category = 1) (k : WG emb own cc nL ret ini d post kc ks (pc + 1) L (v :: u :: v :: st) M) : WG emb own cc nL ret ini d post kc ks pc L (v :: u :: st) M := WG.lift (fun {p l e R s m args below meth c H locs cells slots Q ad ls} hx hb _ w => lv_dup_x1 hx hb hd ((q_v_cat ad v).trans hv) ((q_v_cat ad u).trans hu) w) k
theorem g_if_eq {x : Int32} {off : Int} {tgt : Nat} (hd : decode cc pc = .ok (.ifCond .eq off, 3)) (ht : (pc : Int) + off = (tgt : Int)) (kt : x = 0 → WG emb own cc nL ret ini d post kc ks tgt L st M) (kf : ¬ x = 0 → WG emb own cc nL ret ini d post kc ks (pc + 3) L st M) : WG emb own cc nL ret ini d post kc ks pc L (.int x :: st) M := by
  intro p l e R s m args below meth c H locs cells slots Q ad B D cT ls ct sl hC hR h1 h2 h3 h4 hS hW hl
  exact lv_if_eq hC.1 hC.2.1 hd ht (fun h => kt h p l e R s m args below meth c H locs cells slots Q ad B D cT ls ct sl hC hR h1 h2 h3 h4 hS hW hl) (fun h => kf h p l e R s m args below meth c H locs cells slots Q ad B D cT ls ct sl hC hR h1 h2 h3 h4 hS hW hl)
theorem g_icmp_eq {x y : Int32} {off : Int} {tgt : Nat} (hd : decode cc pc = .ok (.if_icmp .eq off, 3)) (ht : (pc : Int) + off = (tgt : Int)) (kt : x = y → WG emb own cc nL ret ini d post kc ks tgt L st M) (kf : ¬ x = y → WG emb own cc nL ret ini d post kc ks (pc + 3) L st M) : WG emb own cc nL ret ini d post kc ks pc L (.int y :: .int x :: st) M := by
  intro p l e R s m args below meth c H locs cells slots Q ad B D cT ls ct sl hC hR h1 h2 h3 h4 hS hW hl
  exact lv_icmp_eq hC.1 hC.2.1 hd ht (fun h => kt h p l e R s m args below meth c H locs cells slots Q ad B D cT ls ct sl hC hR h1 h2 h3 h4 hS hW hl) (fun h => kf h p l e R s m args below meth c H locs cells slots Q ad B D cT ls ct sl hC hR h1 h2 h3 h4 hS hW hl)
theorem g_if_ne {x : Int32} {off : Int} {tgt : Nat} (hd : decode cc pc = .ok (.ifCond .ne off, 3)) (ht : (pc : Int) + off = (tgt : Int)) (kt : ¬ x = 0 → WG emb own cc nL ret ini d post kc ks tgt L st M) (kf : x = 0 → WG emb own cc nL ret ini d post kc ks (pc + 3) L st M) : WG emb own cc nL ret ini d post kc ks pc L (.int x :: st) M := by
  intro p l e R s m args below meth c H locs cells slots Q ad B D cT ls ct sl hC hR h1 h2 h3 h4 hS hW hl
  exact lv_if_ne hC.1 hC.2.1 hd ht (fun h => kt h p l e R s m args below meth c H locs cells slots Q ad B D cT ls ct sl hC hR h1 h2 h3 h4 hS hW hl) (fun h => kf h p l e R s m args below meth c H locs cells slots Q ad B D cT ls ct sl hC hR h1 h2 h3 h4 hS hW hl)
theorem g_icmp_ne {x y : Int32} {off : Int} {tgt : Nat} (hd : decode cc pc = .ok (.if_icmp .ne off, 3)) (ht : (pc : Int) + off = (tgt : Int)) (kt : ¬ x = y → WG emb own cc nL ret ini d post kc ks tgt L st M) (kf : x = y → WG emb own cc nL ret ini d post kc ks (pc + 3) L st M) : WG emb own cc nL ret ini d post kc ks pc L (.int y :: .int x :: st) M := by
  intro p l e R s m args below meth c H locs cells slots Q ad B D cT ls ct sl hC hR h1 h2 h3 h4 hS hW hl
  exact lv_icmp_ne hC.1 hC.2.1 hd ht (fun h => kt h p l e R s m args below meth c H locs cells slots Q ad B D cT ls ct sl hC hR h1 h2 h3 h4 hS hW hl) (fun h => kf h p l e R s m args below meth c H locs cells slots Q ad B D cT ls ct sl hC hR h1 h2 h3 h4 hS hW hl)
theorem g_if_lt {x : Int32} {off : Int} {tgt : Nat} (hd : decode cc pc = .ok (.ifCond .lt off, 3)) (ht : (pc : Int) + off = (tgt : Int)) (kt : x < 0 → WG emb own cc nL ret ini d post kc ks tgt L st M) (kf : ¬ x < 0 → WG emb own cc nL ret ini d post kc ks (pc + 3) L st M) : WG emb own cc nL ret ini d post kc ks pc L (.int x :: st) M := by
  intro p l e R s m args below meth c H locs cells slots Q ad B D cT ls ct sl hC hR h1 h2 h3 h4 hS hW hl
  exact lv_if_lt hC.1 hC.2.1 hd ht (fun h => kt h p l e R s m args below meth c H locs cells slots Q ad B D cT ls ct sl hC hR h1 h2 h3 h4 hS hW hl) (fun h => kf h p l e R s m args below meth c H locs cells slots Q ad B D cT ls ct sl hC hR h1 h2 h3 h4 hS hW hl)
theorem g_icmp_lt {x y : Int32} {off : Int} {tgt : Nat} (hd : decode cc pc = .ok (.if_icmp .lt off, 3)) (ht : (pc : Int) + off = (tgt : Int)) (kt : x < y → WG emb own cc nL ret ini d post kc ks tgt L st M) (kf : ¬ x < y → WG emb own cc nL ret ini d post kc ks (pc + 3) L st M) : WG emb own cc nL ret ini d post kc ks pc L (.int y :: .int x :: st) M := by
  intro p l e R s m args below meth c H locs cells slots Q ad B D cT ls ct sl hC hR h1 h2 h3 h4 hS hW hl
  exact lv_icmp_lt hC.1 hC.2.1 hd ht (fun h => kt h p l e R s m args below meth c H locs cells slots Q ad B D cT ls ct sl hC hR h1 h2 h3 h4 hS hW hl) (fun h => kf h p l e R s m args below meth c H locs cells slots Q ad B D cT ls ct sl hC hR h1 h2 h3 h4 hS hW hl)
theorem g_if_ge {x : Int32} {off : Int} {tgt : Nat} (hd : decode cc pc = .ok (.ifCond .ge off, 3)) (ht : (pc : Int) + off = (tgt : Int)) (kt : 0 ≤ x → WG emb own cc nL ret ini d post kc ks tgt L st M) (kf : ¬ 0 ≤ x → WG emb own cc nL ret ini d post kc ks (pc + 3) L st M) : WG emb own cc nL ret ini d post kc ks pc L (.int x :: st) M := by
  intro p l e R s m args below meth c H locs cells slots Q ad B D cT ls ct sl hC hR h1 h2 h3 h4 hS hW hl
  exact lv_if_ge hC.1 hC.2.1 hd ht (fun h => kt h p l e R s m args below meth c H locs cells slots Q ad B D cT ls ct sl hC hR h1 h2 h3 h4 hS hW hl) (fun h => kf h p l e R s m args below meth c H locs cells slots Q ad B D cT ls ct sl hC hR h1 h2 h3 h4 hS hW hl)
theorem g_icmp_ge {x y : Int32} {off : Int} {tgt : Nat} (hd : decode cc pc = .ok (.if_icmp .ge off, 3)) (ht : (pc : Int) + off = (tgt : Int)) (kt : y ≤ x → WG emb own cc nL ret ini d post kc ks tgt L st M) (kf : ¬ y ≤ x → WG emb own cc nL ret ini d post kc ks (pc + 3) L st M) : WG emb own cc nL ret ini d post kc ks pc L (.int y :: .int x :: st) M := by
  intro p l e R s m args below meth c H locs cells slots Q ad B D cT ls ct sl hC hR h1 h2 h3 h4 hS hW hl
  exact lv_icmp_ge hC.1 hC.2.1 hd ht (fun h => kt h p l e R s m args below meth c H locs cells slots Q ad B D cT ls ct sl hC hR h1 h2 h3 h4 hS hW hl) (fun h => kf h p l e R s m args below meth c H locs cells slots Q ad B D cT ls ct sl hC hR h1 h2 h3 h4 hS hW hl)
theorem g_if_gt {x : Int32} {off : Int} {tgt : Nat} (hd : decode cc pc = .ok (.ifCond .gt off, 3)) (ht : (pc : Int) + off = (tgt : Int)) (kt : 0 < x → WG emb own cc nL ret ini d post kc ks tgt L st M) (kf : ¬ 0 < x → WG emb own cc nL ret ini d post kc ks (pc + 3) L st M) : WG emb own cc nL ret ini d post kc ks pc L (.int x :: st) M := by
  intro p l e R s m args below meth c H locs cells slots Q ad B D cT ls ct sl hC hR h1 h2 h3 h4 hS hW hl
  exact lv_if_gt hC.1 hC.2.1 hd ht (fun h => kt h p l e R s m args below meth c H locs cells slots Q ad B D cT ls ct sl hC hR h1 h2 h3 h4 hS hW hl) (fun h => kf h p l e R s m args below meth c H locs cells slots Q ad B D cT ls ct sl hC hR h1 h2 h3 h4 hS hW hl)
theorem g_icmp_gt {x y : Int32} {off : Int} {tgt : Nat} (hd : decode cc pc = .ok (.if_icmp .gt off, 3)) (ht : (pc : Int) + off = (tgt : Int)) (kt : y < x → WG emb own cc nL ret ini d post kc ks tgt L st M) (kf : ¬ y < x → WG emb own cc nL ret ini d post kc ks (pc + 3) L st M) : WG emb own cc nL ret ini d post kc ks pc L (.int y :: .int x :: st) M := by
  intro p l e R s m args below meth c H locs cells slots Q ad B D cT ls ct sl hC hR h1 h2 h3 h4 hS hW hl
  exact lv_icmp_gt hC.1 hC.2.1 hd ht (fun h => kt h p l e R s m args below meth c H locs cells slots Q ad B D cT ls ct sl hC hR h1 h2 h3 h4 hS hW hl) (fun h => kf h p l e R s m args below meth c H locs cells slots Q ad B D cT ls ct sl hC hR h1 h2 h3 h4 hS hW hl)
theorem g_if_le {x : Int32} {off : Int} {tgt : Nat} (hd : decode cc pc = .ok (.ifCond .le off, 3)) (ht : (pc : Int) + off = (tgt : Int)) (kt : x ≤ 0 → WG emb own cc nL ret ini d post kc ks tgt L st M) (kf : ¬ x ≤ 0 → WG emb own cc nL ret ini d post kc ks (pc + 3) L st M) : WG emb own cc nL ret ini d post kc ks pc L (.int x :: st) M := by
  intro p l e R s m args below meth c H locs cells slots Q ad B D cT ls ct sl hC hR h1 h2 h3 h4 hS hW hl
  exact lv_if_le hC.1 hC.2.1 hd ht (fun h => kt h p l e R s m args below meth c H locs cells slots Q ad B D cT ls ct sl hC hR h1 h2 h3 h4 hS hW hl) (fun h => kf h p l e R s m args below meth c H locs cells slots Q ad B D cT ls ct sl hC hR h1 h2 h3 h4 hS hW hl)
theorem g_icmp_le {x y : Int32} {off : Int} {tgt : Nat} (hd : decode cc pc = .ok (.if_icmp .le off, 3)) (ht : (pc : Int) + off = (tgt : Int)) (kt : x ≤ y → WG emb own cc nL ret ini d post kc ks tgt L st M) (kf : ¬ x ≤ y → WG emb own cc nL ret ini d post kc ks (pc + 3) L st M) : WG emb own cc nL ret ini d post kc ks pc L (.int y :: .int x :: st) M := by
  intro p l e R s m args below meth c H locs cells slots Q ad B D cT ls ct sl hC hR h1 h2 h3 h4 hS hW hl
  exact lv_icmp_le hC.1 hC.2.1 hd ht (fun h => kt h p l e R s m args below meth c H locs cells slots Q ad B D cT ls ct sl hC hR h1 h2 h3 h4 hS hW hl) (fun h => kf h p l e R s m args below meth c H locs cells slots Q ad B D cT ls ct sl hC hR h1 h2 h3 h4 hS hW hl)
theorem g_ifnull {x : Nat} {off : Int} (hd : decode cc pc = .ok (.ifnull off, 3)) (k : WG emb own cc nL ret ini d post kc ks (pc + 3) L st M) : WG emb own cc nL ret ini d post kc ks pc L (.ref x :: st) M := WG.lift (fun hx hb _ w => lv_ifnull hx hb hd w) k
theorem g_tableOut {dflt lo hi : Int} {offs : Array Int} {len : Nat} {x : Int32} {tgt : Nat} (hd : decode cc pc = .ok (.tableswitch dflt lo hi offs, len)) (h : x.toInt < lo ∨ hi < x.toInt) (ht : (pc : Int) + dflt = (tgt : Int)) (k : WG emb own cc nL ret ini d post kc ks tgt L st M) : WG emb own cc nL ret ini d post kc ks pc L (.int x :: st) M := WG.lift (fun hx hb _ w => lv_tableOut hx hb hd h ht w) k
theorem g_tableIn {dflt lo hi : Int} {offs : Array Int} {len : Nat} {x : Int32} {off : Int} {tgt : Nat} (hd : decode cc pc = .ok (.tableswitch dflt lo hi offs, len)) (h1 : ¬ x.toInt < lo) (h2 : ¬ hi < x.toInt) (ho : offs[(x.toInt - lo).toNat]? = some off) (ht : (pc : Int) + off = (tgt : Int)) (k : WG emb own cc nL ret ini d post kc ks tgt L st M) : WG emb own cc nL ret ini d post kc ks pc L (.int x :: st) M := WG.lift (fun hx hb _ w => lv_tableIn hx hb hd h1 h2 ho ht w) k
theorem g_lookup {dflt : Int} {ps : Array (Int × Int)} {len : Nat} {x : Int32} {off : Int} {tgt : Nat} (hd : decode cc pc = .ok (.lookupswitch dflt ps, len)) (hp : (ps.toList.zip (ps.toList.drop 1)).all (fun (a, next) => a.1 < next.1) = true) (ho : Op.lookupswitch.offset ps.toList dflt x.toInt = off) (ht : (pc : Int) + off = (tgt : Int)) (k : WG emb own cc nL ret ini d post kc ks tgt L st M) : WG emb own cc nL ret ini d post kc ks pc L (.int x :: st) M := WG.lift (fun hx hb _ w => lv_lookup hx hb hd hp ho ht w) k
theorem g_istore_n {i : Fin 4} {x : Int32} (hd : decode cc pc = .ok (.istore_n i, 1)) (hi : (i : Nat) < nL) (hn : q_nl L i = true) (k : WG emb own cc nL ret ini d post kc ks (pc + 1) (L.set i (some (.int x))) st M) : WG emb own cc nL ret ini d post kc ks pc L (.int x :: st) M := by
  intro p l e R s m args below meth c H locs cells slots Q ad B D cT ls ct sl hC hR h1 h2 h3 h4 hS hW hl
  exact lv_istore_n hC.1 hC.2.1 hd rfl hl hi rfl (fun ls hl => k p l e R s m args below meth c H locs cells slots Q ad B D cT ls ct sl hC hR h1 h2 h3 h4 hS hW (q_l_set1 (v := .int x) hn hl))
theorem g_istore {i : Nat} {x : Int32} (hd : decode cc pc = .ok (.istore i, 2)) (hi : i < nL) (hn : q_nl L i = true) (k : WG emb own cc nL ret ini d post kc ks (pc + 2) (L.set i (some (.int x))) st M) : WG emb own cc nL ret ini d post kc ks pc L (.int x :: st) M := by
  intro p l e R s m args below meth c H locs cells slots Q ad B D cT ls ct sl hC hR h1 h2 h3 h4 hS hW hl
  exact lv_istore hC.1 hC.2.1 hd hl hi rfl (fun ls hl => k p l e R s m args below meth c H locs cells slots Q ad B D cT ls ct sl hC hR h1 h2 h3 h4 hS hW (q_l_set1 (v := .int x) hn hl))
theorem g_astore_n {i : Fin 4} {x : Nat} (hd : decode cc pc = .ok (.astore_n i, 1)) (hi : (i : Nat) < nL) (hn : q_nl L i = true) (k : WG emb own cc nL ret ini d post kc ks (pc + 1) (L.set i (some (.ref x))) st M) : WG emb own cc nL ret ini d post kc ks pc L (.ref x :: st) M := by
  intro p l e R s m args below meth c H locs cells slots Q ad B D cT ls ct sl hC hR h1 h2 h3 h4 hS hW hl
  exact lv_astore_n hC.1 hC.2.1 hd rfl hl hi rfl (fun ls hl => k p l e R s m args below meth c H locs cells slots Q ad B D cT ls ct sl hC hR h1 h2 h3 h4 hS hW (q_l_set1 (v := .ref x) hn hl))
theorem g_astore {i : Nat} {x : Nat} (hd : decode cc pc = .ok (.astore i, 2)) (hi : i < nL) (hn : q_nl L i = true) (k : WG emb own cc nL ret ini d post kc ks (pc + 2) (L.set i (some (.ref x))) st M) : WG emb own cc nL ret ini d post kc ks pc L (.ref x :: st) M := by
  intro p l e R s m args below meth c H locs cells slots Q ad B D cT ls ct sl hC hR h1 h2 h3 h4 hS hW hl
  exact lv_astore hC.1 hC.2.1 hd hl hi rfl (fun ls hl => k p l e R s m args below meth c H locs cells slots Q ad B D cT ls ct sl hC hR h1 h2 h3 h4 hS hW (q_l_set1 (v := .ref x) hn hl))
theorem g_lstore_n {i : Fin 4} {x : Int64} (hd : decode cc pc = .ok (.lstore_n i, 1)) (hi : (i : Nat) + 1 < nL) (hn : q_nl L i = true) (k : WG emb own cc nL ret ini d post kc ks (pc + 1) ((L.set i (some (.long x))).set ((i : Nat) + 1) none) st M) : WG emb own cc nL ret ini d post kc ks pc L (.long x :: st) M := by
  intro p l e R s m args below meth c H locs cells slots Q ad B D cT ls ct sl hC hR h1 h2 h3 h4 hS hW hl
  exact lv_lstore_n hC.1 hC.2.1 hd rfl hl hi rfl (fun ls hl => k p l e R s m args below meth c H locs cells slots Q ad B D cT ls ct sl hC hR h1 h2 h3 h4 hS hW (q_l_set2 (v := .long x) hn hl))
theorem g_lstore {i : Nat} {x : Int64} (hd : decode cc pc = .ok (.lstore i, 2)) (hi : i + 1 < nL) (hn : q_nl L i = true) (k : WG emb own cc nL ret ini d post kc ks (pc + 2) ((L.set i (some (.long x))).set (i + 1) none) st M) : WG emb own cc nL ret ini d post kc ks pc L (.long x :: st) M := by
  intro p l e R s m args below meth c H locs cells slots Q ad B D cT ls ct sl hC hR h1 h2 h3 h4 hS hW hl
  exact lv_lstore hC.1 hC.2.1 hd hl hi rfl (fun ls hl => k p l e R s m args below meth c H locs cells slots Q ad B D cT ls ct sl hC hR h1 h2 h3 h4 hS hW (q_l_set2 (v := .long x) hn hl))
theorem g_iinc {i : Nat} {n : Int} {x v : Int32} (hd : decode cc pc = .ok (.iinc i n, 3)) (hj : L[i]? = some (some (.int x))) (hv : x + Int32.ofInt n = v) (hi : i < nL) (hn : q_nl L i = true) (k : WG emb own cc nL ret ini d post kc ks (pc + 3) (L.set i (some (.int v))) st M) : WG emb own cc nL ret ini d post kc ks pc L st M := by
  intro p l e R s m args below meth c H locs cells slots Q ad B D cT ls ct sl hC hR h1 h2 h3 h4 hS hW hl
  obtain ⟨q, hq⟩ := List.getElem?_of_mem (q_l_in (ad := ad) (i := 0) (q := (i, .int x)).mpr ⟨i, .int x, hj, by rw [Nat.zero_add]; rfl⟩)
  exact lv_iinc hC.1 hC.2.1 hd hl hq hv hi rfl (fun ls hl => k p l e R s m args below meth c H locs cells slots Q ad B D cT ls ct sl hC hR h1 h2 h3 h4 hS hW (q_l_set1 (v := .int v) hn hl))
end QG
end
section
/-! ===== the rows that read and write cells ===== -/
theorem cls_in : ∀ (ci : Nat) (q : vw_C), vwCl[ci]? = some q → ∀ w ∈ u_ws q.1 q.2.1 q.2.2, w ∈ lw_tbl := by
  have h0 : ∀ w ∈ u_ws RX0 TX0 10, w ∈ lw_tbl := by decide +kernel
  have h1 : ∀ w ∈ u_ws RX2 TX2 8, w ∈ lw_tbl := by decide +kernel
  have h2 : ∀ w ∈ u_ws RX3 TX3 4, w ∈ lw_tbl := by decide +kernel
  have h3 : ∀ w ∈ u_ws RX4 TX4 3, w ∈ lw_tbl := by decide +kernel
  have h4 : ∀ w ∈ u_ws RX5 TX5 8, w ∈ lw_tbl := by decide +kernel
  have h5 : ∀ w ∈ u_ws RX6 TX6 5, w ∈ lw_tbl := by decide +kernel
  have h6 : ∀ w ∈ u_ws RX7 TX7 9, w ∈ lw_tbl := by decide +kernel
  have h7 : ∀ w ∈ u_ws RX8 TX8 46, w ∈ lw_tbl := by decide +kernel
  intro ci q hq
  match ci, hq with
  | 0, hq => cases hq; exact h0
  | 1, hq => cases hq; exact h1
  | 2, hq => cases hq; exact h2
  | 3, hq => cases hq; exact h3
  | 4, hq => cases hq; exact h4
  | 5, hq => cases hq; exact h5
  | 6, hq => cases hq; exact h6
  | 7, hq => cases hq; exact h7
  | n + 8, hq => simp [vwCl] at hq
theorem cls_ty : ∀ (ci : Nat) (q : vw_C), vwCl[ci]? = some q → (∃ ty : Nat → FieldType, ∀ k, k < q.2.2 → parseFieldDescriptor (q.2.1 k).2.2.1 = some (ty k)) ∧ ∀ a, a < q.2.2 → ∀ b, b < q.2.2 → a ≠ b → (q.2.1 a).2.1 ≠ (q.2.1 b).2.1 := by
  intro ci q hq
  match ci, hq with
  | 0, hq => cases hq; exact ⟨⟨tyX0, tyX0_ok⟩, nmX0⟩
  | 1, hq => cases hq; exact ⟨⟨tyX2, tyX2_ok⟩, nmX2⟩
  | 2, hq => cases hq; exact ⟨⟨tyX3, tyX3_ok⟩, nmX3⟩
  | 3, hq => cases hq; exact ⟨⟨tyX4, tyX4_ok⟩, nmX4⟩
  | 4, hq => cases hq; exact ⟨⟨tyX5, tyX5_ok⟩, nmX5⟩
  | 5, hq => cases hq; exact ⟨⟨tyX6, tyX6_ok⟩, nmX6⟩
  | 6, hq => cases hq; exact ⟨⟨tyX7, tyX7_ok⟩, nmX7⟩
  | 7, hq => cases hq; exact ⟨⟨tyX8, tyX8_ok⟩, nmX8⟩
  | n + 8, hq => simp [vwCl] at hq
/-- a field's link: entry idx of own is field j of class ci -/
def FL (own : String) (idx ci j : Nat) : Prop := ∃ q : vw_C, vwCl[ci]? = some q ∧ j < q.2.2 ∧ Cond.fieldLink own idx (q.2.1 j).1 (q.2.1 j).2.1 (q.2.1 j).2.2.1 ∈ lw_tbl
/-- the same of a field that may be written: its type, whether it is final -/
def FW (own : String) (idx ci j : Nat) (ty : FieldType) (fin : Bool) : Prop := ∃ q : vw_C, vwCl[ci]? = some q ∧ j < q.2.2 ∧ Cond.fieldLink own idx (q.2.1 j).1 (q.2.1 j).2.1 (q.2.1 j).2.2.1 ∈ lw_tbl ∧ parseFieldDescriptor (q.2.1 j).2.2.1 = some ty ∧ (q.2.1 j).2.2.2 = fin ∧ (fin = true → (q.2.1 j).1 = own)
theorem q_nar {ty : FieldType} {v : Value} (ad : Nat → Nat) (h : narrow ty v = v) : narrow ty (q_v ad v) = q_v ad v := by
  cases v <;> first | exact h | (cases ty <;> rfl)
theorem q_fit {ty : FieldType} {v : Value} (ad : Nat → Nat) (h : fits ty v = true) : fits ty (q_v ad v) = true := by
  cases v <;> first | exact h | (cases ty <;> first | rfl | exact h | (simp [fits, q_v] at h ⊢; done))
theorem q_W.one {D : va_G} {cT : Nat → ClassId} {ad : Nat → Nat} {B : Nat} {M : List AE} {H : Heap} {k : Nat} {e : AE} (h : q_W D cT ad B M H) (he : M[k]? = some e) : va_P D vwCl [(B + k, q_e cT ad e)] H := by
  intro i q hq
  have hi : i < 1 := (List.getElem?_eq_some_iff.mp hq).1
  rw [show i = 0 by omega] at hq
  cases hq
  exact h.2.2 k e he
theorem q_W.lt {D : va_G} {cT : Nat → ClassId} {ad : Nat → Nat} {B : Nat} {M : List AE} {H : Heap} {k : Nat} {e : AE} (h : q_W D cT ad B M H) (he : M[k]? = some e) : k < 100000 :=
  Nat.lt_of_lt_of_le (List.getElem?_eq_some_iff.mp he).1 h.2.1
theorem q_W.set {D : va_G} {cT : Nat → ClassId} {ad : Nat → Nat} {B : Nat} {M : List AE} {H H1 : Heap} {k : Nat} {e e1 : AE} (h : q_W D cT ad B M H) (he : M[k]? = some e) (hz : H1.size = H.size) (ho : ∀ q : Nat, q ≠ B + k → H1[q]? = H[q]?) (h1 : va_at D vwCl (B + k, q_e cT ad e1) H1) : q_W D cT ad B (M.set k e1) H1 := by
  refine ⟨by rw [hz, List.length_set]; exact h.1, by rw [List.length_set]; exact h.2.1, fun j x hx => ?_⟩
  rw [List.getElem?_set] at hx
  by_cases hj : k = j
  · subst hj
    rw [if_pos rfl] at hx
    split at hx
    · cases hx
      exact h1
    · cases hx
  · rw [if_neg hj] at hx
    exact (h.2.2 j x hx).kept (ho _ (by show B + j ≠ B + k; omega))
section QM
variable {X : Type} {emb : X → Option Value} {own : String} {cc : ByteArray} {nL : Nat} {ret : Option FieldType} {ini : Bool} {d : Nat} {post : X → List AE → Prop} {kc ks pc : Nat} {L : List (Option Value)} {st : List Value} {M : List AE}
theorem g_get {idx ci j k : Nat} {fs : List Value} {v : Value} (fl : FL own idx ci j) (hd : decode cc pc = .ok (.getfield idx, 3)) (he : M[k]? = some (.inr (ci, fs))) (hv : fs[j]? = some v) (kk : WG emb own cc nL ret ini d post kc ks (pc + 3) L (v :: st) M) : WG emb own cc nL ret ini d post kc ks pc L (.ref k :: st) M := by
  intro p l e R s m args below meth c H locs cells slots Q ad B D cT ls ct sl hC hR h1 h2 h3 h4 hS hW hl
  obtain ⟨hx, hb, hml, hown, hts, hini, hRR, hAD, hB, hK, hZ⟩ := id hC
  obtain ⟨q, hq, hj, hlk⟩ := fl
  have hk : ad k = B + k := hAD k (hW.lt he)
  show W p l e R s m args below meth c H locs cells slots Q (F0 m pc ls (.ref (ad k) :: st.map (q_v ad)))
  rw [hk]
  refine va_get (fs := fs.map (q_v ad)) (v := q_v ad v) hx hb hts (cls_in ci q hq) hown hK (hW.one he) 0 rfl hq j hj (hts _ hlk) (fun _ h => h) ?_ hd (kk p l e R s m args below meth c H locs cells slots Q ad B D cT ls ct sl hC hR h1 h2 h3 h4 hS hW hl)
  rw [List.getElem?_map, hv]
  rfl
theorem g_put {idx ci j k : Nat} {ty : FieldType} {fs : List Value} {v : Value} (fl : FW own idx ci j ty false) (hd : decode cc pc = .ok (.putfield idx, 3)) (he : M[k]? = some (.inr (ci, fs))) (hl9 : j < fs.length) (hn : narrow ty v = v) (hf : fits ty v = true) (kk : WG emb own cc nL ret ini d post kc ks (pc + 3) L st (M.set k (.inr (ci, fs.set j v)))) : WG emb own cc nL ret ini d post kc ks pc L (v :: .ref k :: st) M := by
  intro p l e R s m args below meth c H locs cells slots Q ad B D cT ls ct sl hC hR h1 h2 h3 h4 hS hW hl
  obtain ⟨hx, hb, hml, hown, hts, hini, hRR, hAD, hB, hK, hZ⟩ := id hC
  obtain ⟨⟨C, T, N⟩, hc, hj, hlk, hdesc, hfin, -⟩ := fl
  have hk : ad k = B + k := hAD k (hW.lt he)
  show W p l e R s m args below meth c H locs cells slots Q (F0 m pc ls (q_v ad v :: .ref (ad k) :: st.map (q_v ad)))
  rw [hk]
  obtain ⟨⟨ty0, hty⟩, hnm⟩ := cls_ty ci _ hc
  have hin := cls_in ci _ hc
  have hap := va_apart (own := own) hts hin ty0 hty hnm hK hc
  obtain ⟨r, hr0, cell, q1, q2, q3, q4⟩ := hW.one he 0 _ rfl
  have hr : r = (C, T, N) := Option.some.inj (hr0.symm.trans hc)
  subst hr
  obtain ⟨hSl, hfc, kC, hkC, hkind⟩ := hK.1 ci _ hc
  obtain ⟨cf, kf, fi, f, hi, hsl⟩ := hSl j hj
  have hlay := hts _ (hin _ (u_in_lay hj))
  unfold u_lay at hlay
  rw [if_neg (by rw [hfin]; decide)] at hlay
  have hst := (u_facts hfc hkC (u_lays hts hin hj) hi).1
  have h6 := u_store hfc hkC hkind hlay hi hdesc (q_nar ad hn) (q_fit ad hf)
  refine W.putK hx hb (f := f) ⟨hown, hts _ hlk, ⟨_, _, _, hi⟩, hst⟩ (by rw [q2]; exact h6) q1 q3 (by rw [hsl]; exact k2_hasslot (q4 j hj)) rfl rfl hd fun H' e1 e2 e3 => ?_
  rw [hsl] at e1 ⊢
  refine kk p l e R s m args below meth c H' _ cells slots Q ad B D cT ls ct sl hC hR h1 h2 h3 h4 (hS.put e2 e3 (Nat.le_add_right B k)) (hW.set he e2 e3 ?_) hl
  refine ⟨_, hc, t_OB.to (V := updV (vp_V (fs.map (q_v ad))) j (q_v ad v)) ⟨_, e1, q2, q3, t_set q4 hap hj (q_v ad v)⟩ (fun i _ => ?_)⟩
  rw [vp_updV_set (by rw [List.length_map]; exact hl9), List.map_set]
theorem g_putF {idx ci j k : Nat} {ty : FieldType} {fs : List Value} {v : Value} (fl : FW own idx ci j ty true) (hI : ini = true) (hd : decode cc pc = .ok (.putfield idx, 3)) (he : M[k]? = some (.inr (ci, fs))) (hl9 : j < fs.length) (hn : narrow ty v = v) (hf : fits ty v = true) (kk : WG emb own cc nL ret ini d post kc ks (pc + 3) L st (M.set k (.inr (ci, fs.set j v)))) : WG emb own cc nL ret ini d post kc ks pc L (v :: .ref k :: st) M := by
  intro p l e R s m args below meth c H locs cells slots Q ad B D cT ls ct sl hC hR h1 h2 h3 h4 hS hW hl
  obtain ⟨hx, hb, hml, hown, hts, hini, hRR, hAD, hB, hK, hZ⟩ := id hC
  obtain ⟨⟨C, T, N⟩, hc, hj, hlk, hdesc, hfin, hdecl⟩ := fl
  have hk : ad k = B + k := hAD k (hW.lt he)
  show W p l e R s m args below meth c H locs cells slots Q (F0 m pc ls (q_v ad v :: .ref (ad k) :: st.map (q_v ad)))
  rw [hk]
  obtain ⟨⟨ty0, hty⟩, hnm⟩ := cls_ty ci _ hc
  have hin := cls_in ci _ hc
  have hap := va_apart (own := own) hts hin ty0 hty hnm hK hc
  obtain ⟨r, hr0, cell, q1, q2, q3, q4⟩ := hW.one he 0 _ rfl
  have hr : r = (C, T, N) := Option.some.inj (hr0.symm.trans hc)
  subst hr
  obtain ⟨hSl, hfc, kC, hkC, hkind⟩ := hK.1 ci _ hc
  obtain ⟨cf, kf, fi, f, hi, hsl⟩ := hSl j hj
  have hlay := hts _ (hin _ (u_in_lay hj))
  unfold u_lay at hlay
  rw [if_pos hfin] at hlay
  have hst := (u_facts hfc hkC (u_lays hts hin hj) hi).1
  have hcf : m.cls = cf := by
    obtain ⟨_, _, c', _, _, _, -, -, hf', -, -, -, hown2, -⟩ := Cond.laysFinal_spec hlay
    have e1 : c' = cf := by have := hi.symm.trans hf'; simp at this; exact this.1.symm
    rw [hdecl rfl] at hown2
    rw [← e1]; exact Option.some.inj (hown.symm.trans hown2)
  have h6 := u_fits hfc hkC hkind (Or.inr hlay) hi hdesc (q_nar ad hn) (q_fit ad hf)
  refine W.putFinK hx hb hown (hts _ hlk) hi hst hcf (hini hI) (by rw [q2]; exact h6) q1 q3 (by rw [hsl]; exact k2_hasslot (q4 j hj)) rfl rfl hd fun H' e1 e2 e3 => ?_
  rw [hsl] at e1 ⊢
  refine kk p l e R s m args below meth c H' _ cells slots Q ad B D cT ls ct sl hC hR h1 h2 h3 h4 (hS.put e2 e3 (Nat.le_add_right B k)) (hW.set he e2 e3 ?_) hl
  refine ⟨_, hc, t_OB.to (V := updV (vp_V (fs.map (q_v ad))) j (q_v ad v)) ⟨_, e1, q2, q3, t_set q4 hap hj (q_v ad v)⟩ (fun i _ => ?_)⟩
  rw [vp_updV_set (by rw [List.length_map]; exact hl9), List.map_set]
theorem g_iald {k n : Nat} {f : Nat → Int32} {i : Int32} (hd : decode cc pc = .ok (.iaload, 1)) (he : M[k]? = some (.inl (0, n, .inl f))) (hin : vp_in i n) (kk : WG emb own cc nL ret ini d post kc ks (pc + 1) L (.int (f i.toNatClampNeg) :: st) M) : WG emb own cc nL ret ini d post kc ks pc L (.int i :: .ref k :: st) M := by
  intro p l e R s m args below meth c H locs cells slots Q ad B D cT ls ct sl hC hR h1 h2 h3 h4 hS hW hl
  obtain ⟨hx, hb, hml, hown, hts, hini, hRR, hAD, hB, hK, hZ⟩ := id hC
  have hk : ad k = B + k := hAD k (hW.lt he)
  show W p l e R s m args below meth c H locs cells slots Q (F0 m pc ls (.int i :: .ref (ad k) :: st.map (q_v ad)))
  rw [hk]
  exact va_iald hx hb hK (hW.one he) 0 0 rfl rfl hin hd (kk p l e R s m args below meth c H locs cells slots Q ad B D cT ls ct sl hC hR h1 h2 h3 h4 hS hW hl)
theorem g_zald {k n : Nat} {f : Nat → Int32} {i : Int32} (hd : decode cc pc = .ok (.baload, 1)) (he : M[k]? = some (.inl (1, n, .inl f))) (hin : vp_in i n) (kk : WG emb own cc nL ret ini d post kc ks (pc + 1) L (.int (f i.toNatClampNeg) :: st) M) : WG emb own cc nL ret ini d post kc ks pc L (.int i :: .ref k :: st) M := by
  intro p l e R s m args below meth c H locs cells slots Q ad B D cT ls ct sl hC hR h1 h2 h3 h4 hS hW hl
  obtain ⟨hx, hb, hml, hown, hts, hini, hRR, hAD, hB, hK, hZ⟩ := id hC
  have hk : ad k = B + k := hAD k (hW.lt he)
  show W p l e R s m args below meth c H locs cells slots Q (F0 m pc ls (.int i :: .ref (ad k) :: st.map (q_v ad)))
  rw [hk]
  exact va_zald hx hb hK (hW.one he) 0 1 rfl rfl hin hd (kk p l e R s m args below meth c H locs cells slots Q ad B D cT ls ct sl hC hR h1 h2 h3 h4 hS hW hl)
theorem g_aald {k n k2 : Nat} {g : Nat → Option Nat} {i : Int32} (hd : decode cc pc = .ok (.aaload, 1)) (he : M[k]? = some (.inl (2, n, .inr (.inr (.inr (.inr g)))))) (hin : vp_in i n) (hg : g i.toNatClampNeg = some k2) (kk : WG emb own cc nL ret ini d post kc ks (pc + 1) L (.ref k2 :: st) M) : WG emb own cc nL ret ini d post kc ks pc L (.int i :: .ref k :: st) M := by
  intro p l e R s m args below meth c H locs cells slots Q ad B D cT ls ct sl hC hR h1 h2 h3 h4 hS hW hl
  obtain ⟨hx, hb, hml, hown, hts, hini, hRR, hAD, hB, hK, hZ⟩ := id hC
  have hk : ad k = B + k := hAD k (hW.lt he)
  show W p l e R s m args below meth c H locs cells slots Q (F0 m pc ls (.int i :: .ref (ad k) :: st.map (q_v ad)))
  rw [hk]
  have hlt : i.toNatClampNeg < n := Nat.not_le.mp fun q => hin (Or.inr q)
  have hP := hW.one he
  refine W.aald (v := .ref (ad k2)) (ty := .array .int) hx hb (hP 0 _ rfl) ((hK.2 2 _ rfl).1 n (fun j => va_rf ((g j).map ad))) rfl (fun q => by cases q) (by show ¬ (i < 0 ∨ (arrV _ _ _).slots.size ≤ _); rw [arrV_size]; exact hin) (by show (arrV _ _ _).slots[_]? = _; rw [arrV_read _ _ hlt, hg]; rfl) rfl rfl hd (kk p l e R s m args below meth c H locs cells slots Q ad B D cT ls ct sl hC hR h1 h2 h3 h4 hS hW hl)
theorem g_alen {k n : Nat} {f : Nat → Int32} {v : Int32} (hd : decode cc pc = .ok (.arraylength, 1)) (he : M[k]? = some (.inl (0, n, .inl f))) (hv : Int32.ofNat n = v) (kk : WG emb own cc nL ret ini d post kc ks (pc + 1) L (.int v :: st) M) : WG emb own cc nL ret ini d post kc ks pc L (.ref k :: st) M := by
  intro p l e R s m args below meth c H locs cells slots Q ad B D cT ls ct sl hC hR h1 h2 h3 h4 hS hW hl
  obtain ⟨hx, hb, hml, hown, hts, hini, hRR, hAD, hB, hK, hZ⟩ := id hC
  have hk : ad k = B + k := hAD k (hW.lt he)
  show W p l e R s m args below meth c H locs cells slots Q (F0 m pc ls (.ref (ad k) :: st.map (q_v ad)))
  rw [hk]
  exact va_alen hx hb hK (hW.one he) 0 0 rfl rfl hv hd (kk p l e R s m args below meth c H locs cells slots Q ad B D cT ls ct sl hC hR h1 h2 h3 h4 hS hW hl)
theorem g_iast {k n : Nat} {f : Nat → Int32} {i x : Int32} (hd : decode cc pc = .ok (.iastore, 1)) (he : M[k]? = some (.inl (0, n, .inl f))) (hin : vp_in i n) (kk : WG emb own cc nL ret ini d post kc ks (pc + 1) L st (M.set k (.inl (0, n, .inl (upd f i.toNatClampNeg x))))) : WG emb own cc nL ret ini d post kc ks pc L (.int x :: .int i :: .ref k :: st) M := by
  intro p l e R s m args below meth c H locs cells slots Q ad B D cT ls ct sl hC hR h1 h2 h3 h4 hS hW hl
  obtain ⟨hx, hb, hml, hown, hts, hini, hRR, hAD, hB, hK, hZ⟩ := id hC
  have hk : ad k = B + k := hAD k (hW.lt he)
  show W p l e R s m args below meth c H locs cells slots Q (F0 m pc ls (.int x :: .int i :: .ref (ad k) :: st.map (q_v ad)))
  rw [hk]
  refine W.iast hx hb (hW.one he 0 _ rfl) ((hK.2 0 _ rfl).1 n (fun j => .int (f j))) (fun q => by cases q) (by show ¬ (i < 0 ∨ (arrV _ _ _).slots.size ≤ _); rw [arrV_size]; exact hin) rfl rfl hd fun H1 e z oq => ?_
  refine kk p l _ R s m args below meth c H1 _ cells slots Q ad B D cT ls ct sl hC hR h1 h2 h3 h4 (hS.put z oq (Nat.le_add_right B k)) (hW.set he z oq ?_) hl
  show H1[B + k]? = some (vp_cell _ _)
  rw [e]
  show some ((vp_cell _ (n, .inl f)).setSlot _ _) = some (vp_cell _ (n, .inl _))
  rw [vp_cell_i, vp_cell_i, arrV_store]
  congr 2
  funext q
  by_cases hq : q = i.toNatClampNeg
  · subst hq
    simp [updV, upd]
  · simp [updV, upd, hq]
theorem g_zast {k n : Nat} {f : Nat → Int32} {i x : Int32} (hd : decode cc pc = .ok (.bastore, 1)) (he : M[k]? = some (.inl (1, n, .inl f))) (hin : vp_in i n) (hx9 : narrow .boolean (.int x) = .int x) (kk : WG emb own cc nL ret ini d post kc ks (pc + 1) L st (M.set k (.inl (1, n, .inl (upd f i.toNatClampNeg x))))) : WG emb own cc nL ret ini d post kc ks pc L (.int x :: .int i :: .ref k :: st) M := by
  intro p l e R s m args below meth c H locs cells slots Q ad B D cT ls ct sl hC hR h1 h2 h3 h4 hS hW hl
  obtain ⟨hx, hb, hml, hown, hts, hini, hRR, hAD, hB, hK, hZ⟩ := id hC
  have hk : ad k = B + k := hAD k (hW.lt he)
  show W p l e R s m args below meth c H locs cells slots Q (F0 m pc ls (.int x :: .int i :: .ref (ad k) :: st.map (q_v ad)))
  rw [hk]
  refine W.zast hx hb (hW.one he 0 _ rfl) ((hK.2 1 _ rfl).1 n (fun j => .int (f j))) (fun q => by cases q) (by show ¬ (i < 0 ∨ (arrV _ _ _).slots.size ≤ _); rw [arrV_size]; exact hin) rfl rfl hd fun H1 e z oq => ?_
  refine kk p l _ R s m args below meth c H1 _ cells slots Q ad B D cT ls ct sl hC hR h1 h2 h3 h4 (hS.put z oq (Nat.le_add_right B k)) (hW.set he z oq ?_) hl
  show H1[B + k]? = some (vp_cell _ _)
  rw [e, hx9]
  show some ((vp_cell _ (n, .inl f)).setSlot _ _) = some (vp_cell _ (n, .inl _))
  rw [vp_cell_i, vp_cell_i, arrV_store]
  congr 2
  funext q
  by_cases hq : q = i.toNatClampNeg
  · subst hq
    simp [updV, upd]
  · simp [updV, upd, hq]
/-! the static arrays -/
theorem g_gets {idx i : Nat} (hi : i < 5) (hlk : Cond.fieldLink own idx (s_F i).1 (s_F i).2 "[I" ∈ lw_tbl) (hd : decode cc pc = .ok (.getstatic idx, 3)) (kk : WG emb own cc nL ret ini d post kc ks (pc + 3) L (.ref (100000 + i) :: st) M) : WG emb own cc nL ret ini d post kc ks pc L st M := by
  intro p l e R s m args below meth c H locs cells slots Q ad B D cT ls ct sl hC hR h1 h2 h3 h4 hS hW hl
  obtain ⟨hx, hb, hml, hown, hts, hini, hRR, hAD, hB, hK, hZ⟩ := id hC
  exact va_gets hx hb (hZ.1 i hi).1 hS hown (hts _ hlk) (fun _ h => h) hd (kk p l e R s m args below meth c H locs cells slots Q ad B D cT ls ct sl hC hR h1 h2 h3 h4 hS hW hl)
theorem g_sald {i : Nat} {j : Int32} (hi : i < 5) (hin : vp_in j (s_N i)) (hd : decode cc pc = .ok (.iaload, 1)) (kk : WG emb own cc nL ret ini d post kc ks (pc + 1) L (.int (s_V i j.toNatClampNeg) :: st) M) : WG emb own cc nL ret ini d post kc ks pc L (.int j :: .ref (100000 + i) :: st) M := by
  intro p l e R s m args below meth c H locs cells slots Q ad B D cT ls ct sl hC hR h1 h2 h3 h4 hS hW hl
  obtain ⟨hx, hb, hml, hown, hts, hini, hRR, hAD, hB, hK, hZ⟩ := id hC
  exact va_ti hx hb (hZ.1 i hi).2 hS hin rfl hd (kk p l e R s m args below meth c H locs cells slots Q ad B D cT ls ct sl hC hR h1 h2 h3 h4 hS hW hl)
theorem g_slen {i : Nat} {v : Int32} (hi : i < 5) (hv : Int32.ofNat (s_N i) = v) (hd : decode cc pc = .ok (.arraylength, 1)) (kk : WG emb own cc nL ret ini d post kc ks (pc + 1) L (.int v :: st) M) : WG emb own cc nL ret ini d post kc ks pc L (.ref (100000 + i) :: st) M := by
  intro p l e R s m args below meth c H locs cells slots Q ad B D cT ls ct sl hC hR h1 h2 h3 h4 hS hW hl
  obtain ⟨hx, hb, hml, hown, hts, hini, hRR, hAD, hB, hK, hZ⟩ := id hC
  exact va_tlen hx hb (hZ.1 i hi).2 hS hv hd (kk p l e R s m args below meth c H locs cells slots Q ad B D cT ls ct sl hC hR h1 h2 h3 h4 hS hW hl)
/-! ends -/
theorem g_ireturn {v : Int32} {x : X} {ty : FieldType} (hd : decode cc pc = .ok (.ireturn, 1)) (hr : ret = some ty) (hn : narrow ty (.int v) = .int v) (hx : emb x = some (.int v)) (hp : post x M) : WG emb own cc nL ret ini d post kc ks pc L [.int v] M := by
  intro p l e R s m args below meth c H locs cells slots Q ad B D cT ls ct sl hC hR h1 h2 h3 h4 hS hW hl
  exact hR x M H locs cells slots pc ls [.int v] hp hS hW (by omega) (by omega) (Or.inl ⟨v, ty, hx, rfl, hr, hn, hd⟩)
theorem g_lreturn {v : Int64} {x : X} (hd : decode cc pc = .ok (.lreturn, 1)) (hr : ret = some .long) (hx : emb x = some (.long v)) (hp : post x M) : WG emb own cc nL ret ini d post kc ks pc L [.long v] M := by
  intro p l e R s m args below meth c H locs cells slots Q ad B D cT ls ct sl hC hR h1 h2 h3 h4 hS hW hl
  exact hR x M H locs cells slots pc ls [.long v] hp hS hW (by omega) (by omega) (Or.inr (Or.inl ⟨v, hx, rfl, hr, hd⟩))
theorem g_areturn {v : Nat} {x : X} {t : FieldType} (hd : decode cc pc = .ok (.areturn, 1)) (hr : ret = some (.array t)) (hx : emb x = some (.ref v)) (hp : post x M) : WG emb own cc nL ret ini d post kc ks pc L [.ref v] M := by
  intro p l e R s m args below meth c H locs cells slots Q ad B D cT ls ct sl hC hR h1 h2 h3 h4 hS hW hl
  exact hR x M H locs cells slots pc ls [.ref v] hp hS hW (by omega) (by omega) (Or.inr (Or.inr (Or.inl ⟨v, hx, rfl, ⟨t, hr⟩, hd⟩)))
theorem g_return {x : X} (hd : decode cc pc = .ok (.return_, 1)) (hr : ret = none) (hx : emb x = none) (hp : post x M) : WG emb own cc nL ret ini d post kc ks pc L [] M := by
  intro p l e R s m args below meth c H locs cells slots Q ad B D cT ls ct sl hC hR h1 h2 h3 h4 hS hW hl
  exact hR x M H locs cells slots pc ls [] hp hS hW (by omega) (by omega) (Or.inr (Or.inr (Or.inr ⟨hx, rfl, hr, hd⟩)))
end QM
end
