-- ===== PART A: goes FIRST, ahead of the names: the tables' words, and 'selects' of the private methods out of them =====
/-- a private method of a class that the tables say can be made, by its rows of tables_1 -/
def lw_okq (q : MethodName × Nat) : Prop := (q.1.cls ≠ "java/lang/invoke/MethodHandle" ∧ q.1.cls ≠ "java/lang/invoke/VarHandle") ∧ Cond.instantiable q.1.cls q.2 ∈ tables_1 ∧ Cond.privateMethod q.1 ∈ tables_1 ∧ Cond.instanceMethod q.1 ∈ tables_1
theorem lw_p0 : lw_okq (⟨"HailVotes", "refuse", "(I)I"⟩, 9) := ⟨⟨by decide +kernel, by decide +kernel⟩, List.mem_of_getElem? (i := 14) (by decide +kernel), List.mem_of_getElem? (i := 186) (by decide +kernel), List.mem_of_getElem? (i := 187) (by decide +kernel)⟩
theorem lw_p1 : lw_okq (⟨"HailVotes", "isRoof", "(I)Z"⟩, 9) := ⟨⟨by decide +kernel, by decide +kernel⟩, List.mem_of_getElem? (i := 14) (by decide +kernel), List.mem_of_getElem? (i := 213) (by decide +kernel), List.mem_of_getElem? (i := 214) (by decide +kernel)⟩
theorem lw_p2 : lw_okq (⟨"HailVotes$Reader", "nextToken", "()V"⟩, 6) := ⟨⟨by decide +kernel, by decide +kernel⟩, List.mem_of_getElem? (i := 105) (by decide +kernel), List.mem_of_getElem? (i := 245) (by decide +kernel), List.mem_of_getElem? (i := 246) (by decide +kernel)⟩
theorem lw_p3 : lw_okq (⟨"HailVotes$Reader", "endOfRun", "(III)I"⟩, 6) := ⟨⟨by decide +kernel, by decide +kernel⟩, List.mem_of_getElem? (i := 105) (by decide +kernel), List.mem_of_getElem? (i := 249) (by decide +kernel), List.mem_of_getElem? (i := 250) (by decide +kernel)⟩
theorem lw_p4 : lw_okq (⟨"HailVotes$Reader", "readItem", "(LHailVotes$Canton;)Z"⟩, 6) := ⟨⟨by decide +kernel, by decide +kernel⟩, List.mem_of_getElem? (i := 105) (by decide +kernel), List.mem_of_getElem? (i := 254) (by decide +kernel), List.mem_of_getElem? (i := 255) (by decide +kernel)⟩
theorem lw_p5 : lw_okq (⟨"HailVotes$Reader", "isWord", "(Ljava/lang/String;)Z"⟩, 6) := ⟨⟨by decide +kernel, by decide +kernel⟩, List.mem_of_getElem? (i := 105) (by decide +kernel), List.mem_of_getElem? (i := 259) (by decide +kernel), List.mem_of_getElem? (i := 260) (by decide +kernel)⟩
theorem lw_p6 : lw_okq (⟨"HailVotes$Reader", "readRoof", "(LHailVotes$Canton;)Z"⟩, 6) := ⟨⟨by decide +kernel, by decide +kernel⟩, List.mem_of_getElem? (i := 105) (by decide +kernel), List.mem_of_getElem? (i := 311) (by decide +kernel), List.mem_of_getElem? (i := 312) (by decide +kernel)⟩
theorem lw_p7 : lw_okq (⟨"HailVotes$Reader", "readNumber", "(III)Z"⟩, 6) := ⟨⟨by decide +kernel, by decide +kernel⟩, List.mem_of_getElem? (i := 105) (by decide +kernel), List.mem_of_getElem? (i := 315) (by decide +kernel), List.mem_of_getElem? (i := 316) (by decide +kernel)⟩
theorem lw_p8 : lw_okq (⟨"HailVotes$Reader", "readStop", "()Z"⟩, 6) := ⟨⟨by decide +kernel, by decide +kernel⟩, List.mem_of_getElem? (i := 105) (by decide +kernel), List.mem_of_getElem? (i := 319) (by decide +kernel), List.mem_of_getElem? (i := 320) (by decide +kernel)⟩
theorem lw_p9 : lw_okq (⟨"HailVotes$Reader", "readStorm", "(LHailVotes$Canton;)Z"⟩, 6) := ⟨⟨by decide +kernel, by decide +kernel⟩, List.mem_of_getElem? (i := 105) (by decide +kernel), List.mem_of_getElem? (i := 325) (by decide +kernel), List.mem_of_getElem? (i := 326) (by decide +kernel)⟩
theorem lw_p10 : lw_okq (⟨"HailVotes$Reader", "readCannon", "(LHailVotes$Canton;)Z"⟩, 6) := ⟨⟨by decide +kernel, by decide +kernel⟩, List.mem_of_getElem? (i := 105) (by decide +kernel), List.mem_of_getElem? (i := 331) (by decide +kernel), List.mem_of_getElem? (i := 332) (by decide +kernel)⟩
theorem lw_p11 : lw_okq (⟨"HailVotes", "isStorm", "(I)Z"⟩, 9) := ⟨⟨by decide +kernel, by decide +kernel⟩, List.mem_of_getElem? (i := 14) (by decide +kernel), List.mem_of_getElem? (i := 347) (by decide +kernel), List.mem_of_getElem? (i := 348) (by decide +kernel)⟩
theorem lw_p12 : lw_okq (⟨"HailVotes$Canton", "toll", "(III)I"⟩, 14) := ⟨⟨by decide +kernel, by decide +kernel⟩, List.mem_of_getElem? (i := 28) (by decide +kernel), List.mem_of_getElem? (i := 367) (by decide +kernel), List.mem_of_getElem? (i := 368) (by decide +kernel)⟩
theorem lw_p13 : lw_okq (⟨"HailVotes$Canton", "isTold", "(I)Z"⟩, 14) := ⟨⟨by decide +kernel, by decide +kernel⟩, List.mem_of_getElem? (i := 28) (by decide +kernel), List.mem_of_getElem? (i := 468) (by decide +kernel), List.mem_of_getElem? (i := 469) (by decide +kernel)⟩
theorem lw_p14 : lw_okq (⟨"HailVotes$Canton", "breaksAsTold", "(II)Z"⟩, 14) := ⟨⟨by decide +kernel, by decide +kernel⟩, List.mem_of_getElem? (i := 28) (by decide +kernel), List.mem_of_getElem? (i := 472) (by decide +kernel), List.mem_of_getElem? (i := 473) (by decide +kernel)⟩
theorem lw_p15 : lw_okq (⟨"HailVotes$Story", "forgetOldest", "()V"⟩, 4) := ⟨⟨by decide +kernel, by decide +kernel⟩, List.mem_of_getElem? (i := 22) (by decide +kernel), List.mem_of_getElem? (i := 497) (by decide +kernel), List.mem_of_getElem? (i := 498) (by decide +kernel)⟩
def lw_privs_1 : List (MethodName × Nat) := [(⟨"HailVotes", "refuse", "(I)I"⟩, 9), (⟨"HailVotes", "isRoof", "(I)Z"⟩, 9), (⟨"HailVotes$Reader", "nextToken", "()V"⟩, 6), (⟨"HailVotes$Reader", "endOfRun", "(III)I"⟩, 6), (⟨"HailVotes$Reader", "readItem", "(LHailVotes$Canton;)Z"⟩, 6), (⟨"HailVotes$Reader", "isWord", "(Ljava/lang/String;)Z"⟩, 6), (⟨"HailVotes$Reader", "readRoof", "(LHailVotes$Canton;)Z"⟩, 6), (⟨"HailVotes$Reader", "readNumber", "(III)Z"⟩, 6), (⟨"HailVotes$Reader", "readStop", "()Z"⟩, 6), (⟨"HailVotes$Reader", "readStorm", "(LHailVotes$Canton;)Z"⟩, 6), (⟨"HailVotes$Reader", "readCannon", "(LHailVotes$Canton;)Z"⟩, 6), (⟨"HailVotes", "isStorm", "(I)Z"⟩, 9), (⟨"HailVotes$Canton", "toll", "(III)I"⟩, 14), (⟨"HailVotes$Canton", "isTold", "(I)Z"⟩, 14), (⟨"HailVotes$Canton", "breaksAsTold", "(II)Z"⟩, 14), (⟨"HailVotes$Story", "forgetOldest", "()V"⟩, 4)]
theorem lw_r1 : ∀ q ∈ lw_privs_1, lw_okq q := List.forall_mem_cons.mpr ⟨lw_p0, List.forall_mem_cons.mpr ⟨lw_p1, List.forall_mem_cons.mpr ⟨lw_p2, List.forall_mem_cons.mpr ⟨lw_p3, List.forall_mem_cons.mpr ⟨lw_p4, List.forall_mem_cons.mpr ⟨lw_p5, List.forall_mem_cons.mpr ⟨lw_p6, List.forall_mem_cons.mpr ⟨lw_p7, List.forall_mem_cons.mpr ⟨lw_p8, List.forall_mem_cons.mpr ⟨lw_p9, List.forall_mem_cons.mpr ⟨lw_p10, List.forall_mem_cons.mpr ⟨lw_p11, List.forall_mem_cons.mpr ⟨lw_p12, List.forall_mem_cons.mpr ⟨lw_p13, List.forall_mem_cons.mpr ⟨lw_p14, List.forall_mem_cons.mpr ⟨lw_p15, fun _ h => absurd h List.not_mem_nil⟩⟩⟩⟩⟩⟩⟩⟩⟩⟩⟩⟩⟩⟩⟩⟩
theorem lw_p16 : lw_okq (⟨"HailVotes$Canton", "breakSlope", "(III)I"⟩, 14) := ⟨⟨by decide +kernel, by decide +kernel⟩, List.mem_of_getElem? (i := 28) (by decide +kernel), List.mem_of_getElem? (i := 506) (by decide +kernel), List.mem_of_getElem? (i := 507) (by decide +kernel)⟩
theorem lw_p17 : lw_okq (⟨"HailVotesModel", "bad", "(I)I"⟩, 20) := ⟨⟨by decide +kernel, by decide +kernel⟩, List.mem_of_getElem? (i := 580) (by decide +kernel), List.mem_of_getElem? (i := 660) (by decide +kernel), List.mem_of_getElem? (i := 661) (by decide +kernel)⟩
theorem lw_p18 : lw_okq (⟨"HailVotesModel", "roofs", "()I"⟩, 20) := ⟨⟨by decide +kernel, by decide +kernel⟩, List.mem_of_getElem? (i := 580) (by decide +kernel), List.mem_of_getElem? (i := 664) (by decide +kernel), List.mem_of_getElem? (i := 665) (by decide +kernel)⟩
theorem lw_p19 : lw_okq (⟨"HailVotesModel", "full", "()I"⟩, 20) := ⟨⟨by decide +kernel, by decide +kernel⟩, List.mem_of_getElem? (i := 580) (by decide +kernel), List.mem_of_getElem? (i := 668) (by decide +kernel), List.mem_of_getElem? (i := 669) (by decide +kernel)⟩
theorem lw_p20 : lw_okq (⟨"HailVotesModel", "storms", "()I"⟩, 20) := ⟨⟨by decide +kernel, by decide +kernel⟩, List.mem_of_getElem? (i := 580) (by decide +kernel), List.mem_of_getElem? (i := 680) (by decide +kernel), List.mem_of_getElem? (i := 681) (by decide +kernel)⟩
theorem lw_p21 : lw_okq (⟨"HailVotesModel", "no", "(I)I"⟩, 20) := ⟨⟨by decide +kernel, by decide +kernel⟩, List.mem_of_getElem? (i := 580) (by decide +kernel), List.mem_of_getElem? (i := 691) (by decide +kernel), List.mem_of_getElem? (i := 692) (by decide +kernel)⟩
theorem lw_p22 : lw_okq (⟨"HailVotesModel", "isRoof", "(I)Z"⟩, 20) := ⟨⟨by decide +kernel, by decide +kernel⟩, List.mem_of_getElem? (i := 580) (by decide +kernel), List.mem_of_getElem? (i := 699) (by decide +kernel), List.mem_of_getElem? (i := 700) (by decide +kernel)⟩
theorem lw_p23 : lw_okq (⟨"HailVotesModel", "isStorm", "(I)Z"⟩, 20) := ⟨⟨by decide +kernel, by decide +kernel⟩, List.mem_of_getElem? (i := 580) (by decide +kernel), List.mem_of_getElem? (i := 707) (by decide +kernel), List.mem_of_getElem? (i := 708) (by decide +kernel)⟩
theorem lw_p24 : lw_okq (⟨"HailVotesModel", "forceOf", "(III)I"⟩, 20) := ⟨⟨by decide +kernel, by decide +kernel⟩, List.mem_of_getElem? (i := 580) (by decide +kernel), List.mem_of_getElem? (i := 711) (by decide +kernel), List.mem_of_getElem? (i := 712) (by decide +kernel)⟩
theorem lw_p25 : lw_okq (⟨"HailVotesModel", "of", "(II)I"⟩, 20) := ⟨⟨by decide +kernel, by decide +kernel⟩, List.mem_of_getElem? (i := 580) (by decide +kernel), List.mem_of_getElem? (i := 715) (by decide +kernel), List.mem_of_getElem? (i := 716) (by decide +kernel)⟩
theorem lw_p26 : lw_okq (⟨"HailVotesModel", "cannonAt", "(I)I"⟩, 20) := ⟨⟨by decide +kernel, by decide +kernel⟩, List.mem_of_getElem? (i := 580) (by decide +kernel), List.mem_of_getElem? (i := 719) (by decide +kernel), List.mem_of_getElem? (i := 720) (by decide +kernel)⟩
theorem lw_p27 : lw_okq (⟨"HailVotesModel", "takeNow", "()V"⟩, 20) := ⟨⟨by decide +kernel, by decide +kernel⟩, List.mem_of_getElem? (i := 580) (by decide +kernel), List.mem_of_getElem? (i := 727) (by decide +kernel), List.mem_of_getElem? (i := 728) (by decide +kernel)⟩
theorem lw_p28 : lw_okq (⟨"HailVotesModel", "brokenBy", "(II)I"⟩, 20) := ⟨⟨by decide +kernel, by decide +kernel⟩, List.mem_of_getElem? (i := 580) (by decide +kernel), List.mem_of_getElem? (i := 731) (by decide +kernel), List.mem_of_getElem? (i := 732) (by decide +kernel)⟩
theorem lw_p29 : lw_okq (⟨"HailVotesModel", "breaksAll", "(III)I"⟩, 20) := ⟨⟨by decide +kernel, by decide +kernel⟩, List.mem_of_getElem? (i := 580) (by decide +kernel), List.mem_of_getElem? (i := 735) (by decide +kernel), List.mem_of_getElem? (i := 736) (by decide +kernel)⟩
theorem lw_p30 : lw_okq (⟨"HailVotesModel", "breaksOf", "(IIII)I"⟩, 20) := ⟨⟨by decide +kernel, by decide +kernel⟩, List.mem_of_getElem? (i := 580) (by decide +kernel), List.mem_of_getElem? (i := 739) (by decide +kernel), List.mem_of_getElem? (i := 740) (by decide +kernel)⟩
theorem lw_p31 : lw_okq (⟨"HailVotesModel", "hits", "(II)I"⟩, 20) := ⟨⟨by decide +kernel, by decide +kernel⟩, List.mem_of_getElem? (i := 580) (by decide +kernel), List.mem_of_getElem? (i := 743) (by decide +kernel), List.mem_of_getElem? (i := 744) (by decide +kernel)⟩
def lw_privs_2 : List (MethodName × Nat) := [(⟨"HailVotes$Canton", "breakSlope", "(III)I"⟩, 14), (⟨"HailVotesModel", "bad", "(I)I"⟩, 20), (⟨"HailVotesModel", "roofs", "()I"⟩, 20), (⟨"HailVotesModel", "full", "()I"⟩, 20), (⟨"HailVotesModel", "storms", "()I"⟩, 20), (⟨"HailVotesModel", "no", "(I)I"⟩, 20), (⟨"HailVotesModel", "isRoof", "(I)Z"⟩, 20), (⟨"HailVotesModel", "isStorm", "(I)Z"⟩, 20), (⟨"HailVotesModel", "forceOf", "(III)I"⟩, 20), (⟨"HailVotesModel", "of", "(II)I"⟩, 20), (⟨"HailVotesModel", "cannonAt", "(I)I"⟩, 20), (⟨"HailVotesModel", "takeNow", "()V"⟩, 20), (⟨"HailVotesModel", "brokenBy", "(II)I"⟩, 20), (⟨"HailVotesModel", "breaksAll", "(III)I"⟩, 20), (⟨"HailVotesModel", "breaksOf", "(IIII)I"⟩, 20), (⟨"HailVotesModel", "hits", "(II)I"⟩, 20)]
theorem lw_r2 : ∀ q ∈ lw_privs_2, lw_okq q := List.forall_mem_cons.mpr ⟨lw_p16, List.forall_mem_cons.mpr ⟨lw_p17, List.forall_mem_cons.mpr ⟨lw_p18, List.forall_mem_cons.mpr ⟨lw_p19, List.forall_mem_cons.mpr ⟨lw_p20, List.forall_mem_cons.mpr ⟨lw_p21, List.forall_mem_cons.mpr ⟨lw_p22, List.forall_mem_cons.mpr ⟨lw_p23, List.forall_mem_cons.mpr ⟨lw_p24, List.forall_mem_cons.mpr ⟨lw_p25, List.forall_mem_cons.mpr ⟨lw_p26, List.forall_mem_cons.mpr ⟨lw_p27, List.forall_mem_cons.mpr ⟨lw_p28, List.forall_mem_cons.mpr ⟨lw_p29, List.forall_mem_cons.mpr ⟨lw_p30, List.forall_mem_cons.mpr ⟨lw_p31, fun _ h => absurd h List.not_mem_nil⟩⟩⟩⟩⟩⟩⟩⟩⟩⟩⟩⟩⟩⟩⟩⟩
theorem lw_p32 : lw_okq (⟨"HailVotesModel", "winner", "(I)I"⟩, 20) := ⟨⟨by decide +kernel, by decide +kernel⟩, List.mem_of_getElem? (i := 580) (by decide +kernel), List.mem_of_getElem? (i := 751) (by decide +kernel), List.mem_of_getElem? (i := 752) (by decide +kernel)⟩
theorem lw_p33 : lw_okq (⟨"HailVotesModel", "chanceOf", "(I)I"⟩, 20) := ⟨⟨by decide +kernel, by decide +kernel⟩, List.mem_of_getElem? (i := 580) (by decide +kernel), List.mem_of_getElem? (i := 760) (by decide +kernel), List.mem_of_getElem? (i := 761) (by decide +kernel)⟩
theorem lw_p34 : lw_okq (⟨"HailVotesModel", "allChances", "()I"⟩, 20) := ⟨⟨by decide +kernel, by decide +kernel⟩, List.mem_of_getElem? (i := 580) (by decide +kernel), List.mem_of_getElem? (i := 764) (by decide +kernel), List.mem_of_getElem? (i := 765) (by decide +kernel)⟩
theorem lw_p35 : lw_okq (⟨"HailVotesModel", "tell", "(JJ)I"⟩, 20) := ⟨⟨by decide +kernel, by decide +kernel⟩, List.mem_of_getElem? (i := 580) (by decide +kernel), List.mem_of_getElem? (i := 768) (by decide +kernel), List.mem_of_getElem? (i := 769) (by decide +kernel)⟩
theorem lw_p36 : lw_okq (⟨"HailVotesModel", "findPaint", "(II)V"⟩, 20) := ⟨⟨by decide +kernel, by decide +kernel⟩, List.mem_of_getElem? (i := 580) (by decide +kernel), List.mem_of_getElem? (i := 777) (by decide +kernel), List.mem_of_getElem? (i := 778) (by decide +kernel)⟩
theorem lw_p37 : lw_okq (⟨"HailVotesModel", "brushOn", "(III)V"⟩, 20) := ⟨⟨by decide +kernel, by decide +kernel⟩, List.mem_of_getElem? (i := 580) (by decide +kernel), List.mem_of_getElem? (i := 781) (by decide +kernel), List.mem_of_getElem? (i := 782) (by decide +kernel)⟩
theorem lw_p38 : lw_okq (⟨"HailVotesModel", "leastOver", "()I"⟩, 20) := ⟨⟨by decide +kernel, by decide +kernel⟩, List.mem_of_getElem? (i := 580) (by decide +kernel), List.mem_of_getElem? (i := 793) (by decide +kernel), List.mem_of_getElem? (i := 794) (by decide +kernel)⟩
theorem lw_p39 : lw_okq (⟨"HailVotesModel", "findDecided", "(I)I"⟩, 20) := ⟨⟨by decide +kernel, by decide +kernel⟩, List.mem_of_getElem? (i := 580) (by decide +kernel), List.mem_of_getElem? (i := 801) (by decide +kernel), List.mem_of_getElem? (i := 802) (by decide +kernel)⟩
theorem lw_p40 : lw_okq (⟨"HailVotesModel", "isTold", "(I)Z"⟩, 20) := ⟨⟨by decide +kernel, by decide +kernel⟩, List.mem_of_getElem? (i := 580) (by decide +kernel), List.mem_of_getElem? (i := 822) (by decide +kernel), List.mem_of_getElem? (i := 823) (by decide +kernel)⟩
theorem lw_p41 : lw_okq (⟨"HailVotesModel", "breaksSo", "(II)Z"⟩, 20) := ⟨⟨by decide +kernel, by decide +kernel⟩, List.mem_of_getElem? (i := 580) (by decide +kernel), List.mem_of_getElem? (i := 826) (by decide +kernel), List.mem_of_getElem? (i := 827) (by decide +kernel)⟩
theorem lw_p42 : lw_okq (⟨"HailVotesModel", "keepYear", "()V"⟩, 20) := ⟨⟨by decide +kernel, by decide +kernel⟩, List.mem_of_getElem? (i := 580) (by decide +kernel), List.mem_of_getElem? (i := 842) (by decide +kernel), List.mem_of_getElem? (i := 843) (by decide +kernel)⟩
theorem lw_p43 : lw_okq (⟨"HailVotesModel", "goYear", "(I)I"⟩, 20) := ⟨⟨by decide +kernel, by decide +kernel⟩, List.mem_of_getElem? (i := 580) (by decide +kernel), List.mem_of_getElem? (i := 846) (by decide +kernel), List.mem_of_getElem? (i := 847) (by decide +kernel)⟩
theorem lw_p44 : lw_okq (⟨"HailVotesModel", "look", "(I)V"⟩, 20) := ⟨⟨by decide +kernel, by decide +kernel⟩, List.mem_of_getElem? (i := 580) (by decide +kernel), List.mem_of_getElem? (i := 877) (by decide +kernel), List.mem_of_getElem? (i := 878) (by decide +kernel)⟩
theorem lw_p45 : lw_okq (⟨"HailVotesModel", "readsItem", "()Z"⟩, 20) := ⟨⟨by decide +kernel, by decide +kernel⟩, List.mem_of_getElem? (i := 580) (by decide +kernel), List.mem_of_getElem? (i := 891) (by decide +kernel), List.mem_of_getElem? (i := 892) (by decide +kernel)⟩
theorem lw_p46 : lw_okq (⟨"HailVotesModel", "isWord", "(IIIIII)Z"⟩, 20) := ⟨⟨by decide +kernel, by decide +kernel⟩, List.mem_of_getElem? (i := 580) (by decide +kernel), List.mem_of_getElem? (i := 895) (by decide +kernel), List.mem_of_getElem? (i := 896) (by decide +kernel)⟩
theorem lw_p47 : lw_okq (⟨"HailVotesModel", "readsRoof", "()Z"⟩, 20) := ⟨⟨by decide +kernel, by decide +kernel⟩, List.mem_of_getElem? (i := 580) (by decide +kernel), List.mem_of_getElem? (i := 899) (by decide +kernel), List.mem_of_getElem? (i := 900) (by decide +kernel)⟩
def lw_privs_3 : List (MethodName × Nat) := [(⟨"HailVotesModel", "winner", "(I)I"⟩, 20), (⟨"HailVotesModel", "chanceOf", "(I)I"⟩, 20), (⟨"HailVotesModel", "allChances", "()I"⟩, 20), (⟨"HailVotesModel", "tell", "(JJ)I"⟩, 20), (⟨"HailVotesModel", "findPaint", "(II)V"⟩, 20), (⟨"HailVotesModel", "brushOn", "(III)V"⟩, 20), (⟨"HailVotesModel", "leastOver", "()I"⟩, 20), (⟨"HailVotesModel", "findDecided", "(I)I"⟩, 20), (⟨"HailVotesModel", "isTold", "(I)Z"⟩, 20), (⟨"HailVotesModel", "breaksSo", "(II)Z"⟩, 20), (⟨"HailVotesModel", "keepYear", "()V"⟩, 20), (⟨"HailVotesModel", "goYear", "(I)I"⟩, 20), (⟨"HailVotesModel", "look", "(I)V"⟩, 20), (⟨"HailVotesModel", "readsItem", "()Z"⟩, 20), (⟨"HailVotesModel", "isWord", "(IIIIII)Z"⟩, 20), (⟨"HailVotesModel", "readsRoof", "()Z"⟩, 20)]
theorem lw_r3 : ∀ q ∈ lw_privs_3, lw_okq q := List.forall_mem_cons.mpr ⟨lw_p32, List.forall_mem_cons.mpr ⟨lw_p33, List.forall_mem_cons.mpr ⟨lw_p34, List.forall_mem_cons.mpr ⟨lw_p35, List.forall_mem_cons.mpr ⟨lw_p36, List.forall_mem_cons.mpr ⟨lw_p37, List.forall_mem_cons.mpr ⟨lw_p38, List.forall_mem_cons.mpr ⟨lw_p39, List.forall_mem_cons.mpr ⟨lw_p40, List.forall_mem_cons.mpr ⟨lw_p41, List.forall_mem_cons.mpr ⟨lw_p42, List.forall_mem_cons.mpr ⟨lw_p43, List.forall_mem_cons.mpr ⟨lw_p44, List.forall_mem_cons.mpr ⟨lw_p45, List.forall_mem_cons.mpr ⟨lw_p46, List.forall_mem_cons.mpr ⟨lw_p47, fun _ h => absurd h List.not_mem_nil⟩⟩⟩⟩⟩⟩⟩⟩⟩⟩⟩⟩⟩⟩⟩⟩
theorem lw_p48 : lw_okq (⟨"HailVotesModel", "goOn", "()V"⟩, 20) := ⟨⟨by decide +kernel, by decide +kernel⟩, List.mem_of_getElem? (i := 580) (by decide +kernel), List.mem_of_getElem? (i := 903) (by decide +kernel), List.mem_of_getElem? (i := 904) (by decide +kernel)⟩
theorem lw_p49 : lw_okq (⟨"HailVotesModel", "takes", "(III)Z"⟩, 20) := ⟨⟨by decide +kernel, by decide +kernel⟩, List.mem_of_getElem? (i := 580) (by decide +kernel), List.mem_of_getElem? (i := 907) (by decide +kernel), List.mem_of_getElem? (i := 908) (by decide +kernel)⟩
theorem lw_p50 : lw_okq (⟨"HailVotesModel", "readsStorm", "()Z"⟩, 20) := ⟨⟨by decide +kernel, by decide +kernel⟩, List.mem_of_getElem? (i := 580) (by decide +kernel), List.mem_of_getElem? (i := 911) (by decide +kernel), List.mem_of_getElem? (i := 912) (by decide +kernel)⟩
theorem lw_p51 : lw_okq (⟨"HailVotesModel", "readsCannon", "()Z"⟩, 20) := ⟨⟨by decide +kernel, by decide +kernel⟩, List.mem_of_getElem? (i := 580) (by decide +kernel), List.mem_of_getElem? (i := 915) (by decide +kernel), List.mem_of_getElem? (i := 916) (by decide +kernel)⟩
theorem lw_p52 : lw_okq (⟨"HailVotesModel", "counted", "(I)I"⟩, 20) := ⟨⟨by decide +kernel, by decide +kernel⟩, List.mem_of_getElem? (i := 580) (by decide +kernel), List.mem_of_getElem? (i := 939) (by decide +kernel), List.mem_of_getElem? (i := 940) (by decide +kernel)⟩
theorem lw_p53 : lw_okq (⟨"HailVotesModel", "cannons", "()I"⟩, 20) := ⟨⟨by decide +kernel, by decide +kernel⟩, List.mem_of_getElem? (i := 580) (by decide +kernel), List.mem_of_getElem? (i := 943) (by decide +kernel), List.mem_of_getElem? (i := 944) (by decide +kernel)⟩
theorem lw_p54 : lw_okq (⟨"HailVotesModel", "sums", "(JII)J"⟩, 20) := ⟨⟨by decide +kernel, by decide +kernel⟩, List.mem_of_getElem? (i := 580) (by decide +kernel), List.mem_of_getElem? (i := 953) (by decide +kernel), List.mem_of_getElem? (i := 954) (by decide +kernel)⟩
def lw_privs_4 : List (MethodName × Nat) := [(⟨"HailVotesModel", "goOn", "()V"⟩, 20), (⟨"HailVotesModel", "takes", "(III)Z"⟩, 20), (⟨"HailVotesModel", "readsStorm", "()Z"⟩, 20), (⟨"HailVotesModel", "readsCannon", "()Z"⟩, 20), (⟨"HailVotesModel", "counted", "(I)I"⟩, 20), (⟨"HailVotesModel", "cannons", "()I"⟩, 20), (⟨"HailVotesModel", "sums", "(JII)J"⟩, 20)]
theorem lw_r4 : ∀ q ∈ lw_privs_4, lw_okq q := List.forall_mem_cons.mpr ⟨lw_p48, List.forall_mem_cons.mpr ⟨lw_p49, List.forall_mem_cons.mpr ⟨lw_p50, List.forall_mem_cons.mpr ⟨lw_p51, List.forall_mem_cons.mpr ⟨lw_p52, List.forall_mem_cons.mpr ⟨lw_p53, List.forall_mem_cons.mpr ⟨lw_p54, fun _ h => absurd h List.not_mem_nil⟩⟩⟩⟩⟩⟩⟩
def lw_privs : List (MethodName × Nat) := lw_privs_1 ++ (lw_privs_2 ++ (lw_privs_3 ++ (lw_privs_4)))
def lw_tbl : List Cond := k2_sels lw_privs ++ tables_1
theorem lw_privs_ok : ∀ q ∈ lw_privs, lw_okq q := by
  show ∀ q ∈ lw_privs_1 ++ (lw_privs_2 ++ (lw_privs_3 ++ (lw_privs_4))), lw_okq q
  exact List.forall_mem_append.mpr ⟨lw_r1, List.forall_mem_append.mpr ⟨lw_r2, List.forall_mem_append.mpr ⟨lw_r3, lw_r4⟩⟩⟩

/-! ===== BEGIN words of one list among another's, by their places ===== -/
theorem goodIn_r {big : List Cond} (ws : List Cond) (ps : List Nat) (hp : ws = ps.filterMap (fun i => big[i]?)) (h : ws.all goodWord = true) : GoodIn big ws := by
  intro w hw
  have h1 := List.all_eq_true.mp h w hw
  rw [hp] at hw
  obtain ⟨i, -, hi⟩ := List.mem_filterMap.mp hw
  have hm : w ∈ big := by first | exact List.mem_of_getElem? hi | exact List.getElem?_mem hi
  exact ⟨hm, good_of_word h1⟩
theorem goodIn_app {big a b : List Cond} (ha : GoodIn big a) (hb : GoodIn big b) : GoodIn big (a ++ b) := fun w h => (List.mem_append.mp h).elim (ha w) (hb w)
theorem goodIn_ca {big a b : List Cond} {c : Cond} (ha : GoodIn big (c :: a)) (hb : GoodIn big b) : GoodIn big (c :: (a ++ b)) := fun w h => (List.mem_cons.mp h).elim (fun e => ha w (List.mem_cons.mpr (Or.inl e))) (fun h => (List.mem_append.mp h).elim (fun h => ha w (List.mem_cons.mpr (Or.inr h))) (hb w))
theorem goodIn_sub {big ws : List Cond} (hm : ∀ w ∈ ws, w ∈ big) (h : ws.all goodWord = true) : GoodIn big ws := fun w hw => ⟨hm w hw, good_of_word (List.all_eq_true.mp h w hw)⟩
/-! ===== END ===== -/

/-! ===== BEGIN printed: names, fields, word lists, decode rows ===== -/
def RX0 : String := "HailVotes$Canton"
def TX0 : u_T := fun k => match k with
  | 0 => ("HailVotes$Canton", "roofs", "I", false)
  | 1 => ("HailVotes$Canton", "storms", "I", false)
  | 2 => ("HailVotes$Canton", "years", "I", false)
  | 3 => ("HailVotes$Canton", "kind", "[I", true)
  | 4 => ("HailVotes$Canton", "age", "[I", true)
  | 5 => ("HailVotes$Canton", "cover", "[I", true)
  | 6 => ("HailVotes$Canton", "blueShards", "[I", true)
  | 7 => ("HailVotes$Canton", "brownShards", "[I", true)
  | 8 => ("HailVotes$Canton", "first", "[I", true)
  | 9 => ("HailVotes$Canton", "last", "[I", true)
  | 10 => ("HailVotes$Canton", "wind", "[I", true)
  | 11 => ("HailVotes$Canton", "size", "[I", true)
  | 12 => ("HailVotes$Canton", "chance", "[I", true)
  | _ => ("HailVotes$Canton", "guns", "[I", true)
def tyX0 : Nat → FieldType := fun k => match k with
  | 0 => .int
  | 1 => .int
  | 2 => .int
  | 3 => .array .int
  | 4 => .array .int
  | 5 => .array .int
  | 6 => .array .int
  | 7 => .array .int
  | 8 => .array .int
  | 9 => .array .int
  | 10 => .array .int
  | 11 => .array .int
  | 12 => .array .int
  | _ => .array .int
abbrev wsX00 : List Cond := u_ws RX0 TX0 14
theorem nmX0 : ∀ a, a < 14 → ∀ b, b < 14 → a ≠ b → (TX0 a).2.1 ≠ (TX0 b).2.1 := by decide +kernel
theorem tyX0_ok : ∀ k, k < 14 → parseFieldDescriptor (TX0 k).2.2.1 = some (tyX0 k) := by decide +kernel
abbrev cX0_init : ByteArray := prog_2_method_1_code
def yX0_init : MethodName := ⟨RX0, "<init>", "()V"⟩
abbrev cX0_row : ByteArray := prog_2_method_2_code
def yX0_row : MethodName := ⟨RX0, "row", "(III)I"⟩
abbrev cX0_empty : ByteArray := prog_2_method_3_code
def yX0_empty : MethodName := ⟨RX0, "empty", "()V"⟩
abbrev cX0_become : ByteArray := prog_2_method_4_code
def yX0_become : MethodName := ⟨RX0, "become", "(LHailVotes$Canton;)V"⟩
abbrev cX0_addRoof : ByteArray := prog_2_method_5_code
def yX0_addRoof : MethodName := ⟨RX0, "addRoof", "(IIIIII)I"⟩
abbrev cX0_addStorm : ByteArray := prog_2_method_6_code
def yX0_addStorm : MethodName := ⟨RX0, "addStorm", "(IIIII)I"⟩
abbrev cX0_allGuns : ByteArray := prog_2_method_7_code
def yX0_allGuns : MethodName := ⟨RX0, "allGuns", "()I"⟩
abbrev cX0_forceOn : ByteArray := prog_2_method_8_code
def yX0_forceOn : MethodName := ⟨RX0, "forceOn", "(III)I"⟩
abbrev cX0_toll : ByteArray := prog_2_method_9_code
def yX0_toll : MethodName := ⟨RX0, "toll", "(III)I"⟩
abbrev cX0_brokenOf : ByteArray := prog_2_method_10_code
def yX0_brokenOf : MethodName := ⟨RX0, "brokenOf", "(III)I"⟩
abbrev cX0_brokenInAll : ByteArray := prog_2_method_11_code
def yX0_brokenInAll : MethodName := ⟨RX0, "brokenInAll", "(II)I"⟩
abbrev cX0_lead : ByteArray := prog_2_method_12_code
def yX0_lead : MethodName := ⟨RX0, "lead", "(I)I"⟩
abbrev cX0_winnerBy : ByteArray := prog_2_method_13_code
def yX0_winnerBy : MethodName := ⟨RX0, "winnerBy", "(I)I"⟩
abbrev cX0_isDecidedBy : ByteArray := prog_2_method_14_code
def yX0_isDecidedBy : MethodName := ⟨RX0, "isDecidedBy", "(II)Z"⟩
abbrev cX0_allChances : ByteArray := prog_2_method_15_code
def yX0_allChances : MethodName := ⟨RX0, "allChances", "()I"⟩
abbrev cX0_chancesOf : ByteArray := prog_2_method_16_code
def yX0_chancesOf : MethodName := ⟨RX0, "chancesOf", "(I)I"⟩
abbrev cX0_chancesWithGun : ByteArray := prog_2_method_17_code
def yX0_chancesWithGun : MethodName := ⟨RX0, "chancesWithGun", "(II)I"⟩
abbrev cX0_edgeOfBlue : ByteArray := prog_2_method_18_code
def yX0_edgeOfBlue : MethodName := ⟨RX0, "edgeOfBlue", "()I"⟩
abbrev cX0_keepsEdge : ByteArray := prog_2_method_19_code
def yX0_keepsEdge : MethodName := ⟨RX0, "keepsEdge", "(II)Z"⟩
abbrev cX0_isTold : ByteArray := prog_2_method_20_code
def yX0_isTold : MethodName := ⟨RX0, "isTold", "(I)Z"⟩
abbrev cX0_breaksAsTold : ByteArray := prog_2_method_21_code
def yX0_breaksAsTold : MethodName := ⟨RX0, "breaksAsTold", "(II)Z"⟩
abbrev cX0_stormsThatFit : ByteArray := prog_2_method_22_code
def yX0_stormsThatFit : MethodName := ⟨RX0, "stormsThatFit", "()I"⟩
abbrev cX0_roofsByHand : ByteArray := prog_2_method_23_code
def yX0_roofsByHand : MethodName := ⟨RX0, "roofsByHand", "()I"⟩
abbrev cX0_passYear : ByteArray := prog_2_method_24_code
def yX0_passYear : MethodName := ⟨RX0, "passYear", "(I)I"⟩
abbrev cX0_breakSlope : ByteArray := prog_2_method_25_code
def yX0_breakSlope : MethodName := ⟨RX0, "breakSlope", "(III)I"⟩
abbrev cX0_stormAt : ByteArray := prog_2_method_26_code
def yX0_stormAt : MethodName := ⟨RX0, "stormAt", "(J)I"⟩
abbrev cX0_mixRoofs : ByteArray := prog_2_method_27_code
def yX0_mixRoofs : MethodName := ⟨RX0, "mixRoofs", "(J)J"⟩
abbrev cX0_mixStorms : ByteArray := prog_2_method_28_code
def yX0_mixStorms : MethodName := ⟨RX0, "mixStorms", "(J)J"⟩
abbrev cX0_mixGuns : ByteArray := prog_2_method_29_code
def yX0_mixGuns : MethodName := ⟨RX0, "mixGuns", "(J)J"⟩
def RX1 : String := "HailVotes$Fraction"
def TX1 : u_T := fun k => match k with
  | 0 => ("HailVotes$Fraction", "above", "J", false)
  | _ => ("HailVotes$Fraction", "below", "J", false)
def tyX1 : Nat → FieldType := fun k => match k with
  | 0 => .long
  | _ => .long
abbrev wsX10 : List Cond := u_ws RX1 TX1 2
theorem nmX1 : ∀ a, a < 2 → ∀ b, b < 2 → a ≠ b → (TX1 a).2.1 ≠ (TX1 b).2.1 := by decide +kernel
theorem tyX1_ok : ∀ k, k < 2 → parseFieldDescriptor (TX1 k).2.2.1 = some (tyX1 k) := by decide +kernel
abbrev cX1_init : ByteArray := prog_3_method_1_code
def yX1_init : MethodName := ⟨RX1, "<init>", "()V"⟩
abbrev cX1_become : ByteArray := prog_3_method_2_code
def yX1_become : MethodName := ⟨RX1, "become", "(JJ)V"⟩
abbrev cX1_greatestShared : ByteArray := prog_3_method_3_code
def yX1_greatestShared : MethodName := ⟨RX1, "greatestShared", "(JJ)J"⟩
abbrev cX1_choose : ByteArray := prog_3_method_4_code
def yX1_choose : MethodName := ⟨RX1, "choose", "(II)J"⟩
def RX2 : String := "HailVotes$Reader"
def TX2 : u_T := fun k => match k with
  | 0 => ("HailVotes$Reader", "length", "I", false)
  | 1 => ("HailVotes$Reader", "bytes", "[I", true)
  | 2 => ("HailVotes$Reader", "numbers", "[I", true)
  | 3 => ("HailVotes$Reader", "token", "I", false)
  | 4 => ("HailVotes$Reader", "tokenEnd", "I", false)
  | _ => ("HailVotes$Reader", "sort", "I", false)
def tyX2 : Nat → FieldType := fun k => match k with
  | 0 => .int
  | 1 => .array .int
  | 2 => .array .int
  | 3 => .int
  | 4 => .int
  | _ => .int
abbrev wsX20 : List Cond := u_ws RX2 TX2 6
theorem nmX2 : ∀ a, a < 6 → ∀ b, b < 6 → a ≠ b → (TX2 a).2.1 ≠ (TX2 b).2.1 := by decide +kernel
theorem tyX2_ok : ∀ k, k < 6 → parseFieldDescriptor (TX2 k).2.2.1 = some (tyX2 k) := by decide +kernel
abbrev cX2_init : ByteArray := prog_4_method_1_code
def yX2_init : MethodName := ⟨RX2, "<init>", "()V"⟩
abbrev cX2_put : ByteArray := prog_4_method_2_code
def yX2_put : MethodName := ⟨RX2, "put", "(I)V"⟩
abbrev cX2_readInto : ByteArray := prog_4_method_3_code
def yX2_readInto : MethodName := ⟨RX2, "readInto", "(LHailVotes$Canton;)I"⟩
abbrev cX2_readItem : ByteArray := prog_4_method_4_code
def yX2_readItem : MethodName := ⟨RX2, "readItem", "(LHailVotes$Canton;)Z"⟩
abbrev cX2_readRoof : ByteArray := prog_4_method_5_code
def yX2_readRoof : MethodName := ⟨RX2, "readRoof", "(LHailVotes$Canton;)Z"⟩
abbrev cX2_readStorm : ByteArray := prog_4_method_6_code
def yX2_readStorm : MethodName := ⟨RX2, "readStorm", "(LHailVotes$Canton;)Z"⟩
abbrev cX2_readCannon : ByteArray := prog_4_method_7_code
def yX2_readCannon : MethodName := ⟨RX2, "readCannon", "(LHailVotes$Canton;)Z"⟩
abbrev cX2_readNumber : ByteArray := prog_4_method_8_code
def yX2_readNumber : MethodName := ⟨RX2, "readNumber", "(III)Z"⟩
abbrev cX2_readStop : ByteArray := prog_4_method_9_code
def yX2_readStop : MethodName := ⟨RX2, "readStop", "()Z"⟩
abbrev cX2_isWord : ByteArray := prog_4_method_10_code
def yX2_isWord : MethodName := ⟨RX2, "isWord", "(Ljava/lang/String;)Z"⟩
abbrev cX2_nextToken : ByteArray := prog_4_method_11_code
def yX2_nextToken : MethodName := ⟨RX2, "nextToken", "()V"⟩
abbrev cX2_endOfRun : ByteArray := prog_4_method_12_code
def yX2_endOfRun : MethodName := ⟨RX2, "endOfRun", "(III)I"⟩
def RX3 : String := "HailVotes$Story"
def TX3 : u_T := fun k => match k with
  | 0 => ("HailVotes$Story", "now", "LHailVotes$Canton;", true)
  | 1 => ("HailVotes$Story", "undoable", "I", false)
  | 2 => ("HailVotes$Story", "isKept", "Z", false)
  | _ => ("HailVotes$Story", "past", "[LHailVotes$Canton;", true)
def tyX3 : Nat → FieldType := fun k => match k with
  | 0 => .object "HailVotes$Canton"
  | 1 => .int
  | 2 => .boolean
  | _ => .array (.object "HailVotes$Canton")
abbrev wsX30 : List Cond := u_ws RX3 TX3 4
theorem nmX3 : ∀ a, a < 4 → ∀ b, b < 4 → a ≠ b → (TX3 a).2.1 ≠ (TX3 b).2.1 := by decide +kernel
theorem tyX3_ok : ∀ k, k < 4 → parseFieldDescriptor (TX3 k).2.2.1 = some (tyX3 k) := by decide +kernel
abbrev cX3_init : ByteArray := prog_5_method_1_code
def yX3_init : MethodName := ⟨RX3, "<init>", "()V"⟩
abbrev cX3_remember : ByteArray := prog_5_method_2_code
def yX3_remember : MethodName := ⟨RX3, "remember", "()V"⟩
abbrev cX3_forgetOldest : ByteArray := prog_5_method_3_code
def yX3_forgetOldest : MethodName := ⟨RX3, "forgetOldest", "()V"⟩
abbrev cX3_goBack : ByteArray := prog_5_method_4_code
def yX3_goBack : MethodName := ⟨RX3, "goBack", "()Z"⟩
abbrev cX3_become : ByteArray := prog_5_method_5_code
def yX3_become : MethodName := ⟨RX3, "become", "(LHailVotes$Story;)V"⟩
def RX4 : String := "HailVotes"
def TX4 : u_T := fun k => match k with
  | 0 => ("HailVotes", "story", "LHailVotes$Story;", true)
  | 1 => ("HailVotes", "firstImage", "LHailVotes$Story;", true)
  | 2 => ("HailVotes", "secondImage", "LHailVotes$Story;", true)
  | 3 => ("HailVotes", "text", "LHailVotes$Reader;", true)
  | 4 => ("HailVotes", "fraction", "LHailVotes$Fraction;", true)
  | 5 => ("HailVotes", "trial", "LHailVotes$Canton;", true)
  | 6 => ("HailVotes", "bads", "I", false)
  | 7 => ("HailVotes", "noes", "I", false)
  | _ => ("HailVotes", "fulls", "I", false)
def tyX4 : Nat → FieldType := fun k => match k with
  | 0 => .object "HailVotes$Story"
  | 1 => .object "HailVotes$Story"
  | 2 => .object "HailVotes$Story"
  | 3 => .object "HailVotes$Reader"
  | 4 => .object "HailVotes$Fraction"
  | 5 => .object "HailVotes$Canton"
  | 6 => .int
  | 7 => .int
  | _ => .int
abbrev wsX40 : List Cond := u_ws RX4 TX4 9
theorem nmX4 : ∀ a, a < 9 → ∀ b, b < 9 → a ≠ b → (TX4 a).2.1 ≠ (TX4 b).2.1 := by decide +kernel
theorem tyX4_ok : ∀ k, k < 9 → parseFieldDescriptor (TX4 k).2.2.1 = some (tyX4 k) := by decide +kernel
abbrev cX4_init : ByteArray := prog_1_method_1_code
def yX4_init : MethodName := ⟨RX4, "<init>", "()V"⟩
abbrev cX4_roof : ByteArray := prog_1_method_2_code
def yX4_roof : MethodName := ⟨RX4, "roof", "(IIIIII)I"⟩
abbrev cX4_storm : ByteArray := prog_1_method_3_code
def yX4_storm : MethodName := ⟨RX4, "storm", "(IIIII)I"⟩
abbrev cX4_cannon : ByteArray := prog_1_method_4_code
def yX4_cannon : MethodName := ⟨RX4, "cannon", "(IZ)I"⟩
abbrev cX4_tiles : ByteArray := prog_1_method_5_code
def yX4_tiles : MethodName := ⟨RX4, "tiles", "(III)I"⟩
abbrev cX4_type : ByteArray := prog_1_method_6_code
def yX4_type : MethodName := ⟨RX4, "type", "(JI)I"⟩
abbrev cX4_clear : ByteArray := prog_1_method_7_code
def yX4_clear : MethodName := ⟨RX4, "clear", "()I"⟩
abbrev cX4_read : ByteArray := prog_1_method_8_code
def yX4_read : MethodName := ⟨RX4, "read", "()I"⟩
abbrev cX4_force : ByteArray := prog_1_method_9_code
def yX4_force : MethodName := ⟨RX4, "force", "(III)I"⟩
abbrev cX4_breaks : ByteArray := prog_1_method_10_code
def yX4_breaks : MethodName := ⟨RX4, "breaks", "(III)I"⟩
abbrev cX4_wins : ByteArray := prog_1_method_11_code
def yX4_wins : MethodName := ⟨RX4, "wins", "(I)I"⟩
abbrev cX4_odds : ByteArray := prog_1_method_12_code
def yX4_odds : MethodName := ⟨RX4, "odds", "(I)I"⟩
abbrev cX4_paint : ByteArray := prog_1_method_13_code
def yX4_paint : MethodName := ⟨RX4, "paint", "(II)I"⟩
abbrev cX4_brush : ByteArray := prog_1_method_14_code
def yX4_brush : MethodName := ⟨RX4, "brush", "(IIII)I"⟩
abbrev cX4_against : ByteArray := prog_1_method_15_code
def yX4_against : MethodName := ⟨RX4, "against", "()I"⟩
abbrev cX4_decides : ByteArray := prog_1_method_16_code
def yX4_decides : MethodName := ⟨RX4, "decides", "(I)I"⟩
abbrev cX4_power : ByteArray := prog_1_method_17_code
def yX4_power : MethodName := ⟨RX4, "power", "(I)I"⟩
abbrev cX4_shield : ByteArray := prog_1_method_18_code
def yX4_shield : MethodName := ⟨RX4, "shield", "(I)I"⟩
abbrev cX4_shards : ByteArray := prog_1_method_19_code
def yX4_shards : MethodName := ⟨RX4, "shards", "(III)I"⟩
abbrev cX4_which : ByteArray := prog_1_method_20_code
def yX4_which : MethodName := ⟨RX4, "which", "(I)I"⟩
abbrev cX4_recount : ByteArray := prog_1_method_21_code
def yX4_recount : MethodName := ⟨RX4, "recount", "(II)I"⟩
abbrev cX4_year : ByteArray := prog_1_method_22_code
def yX4_year : MethodName := ⟨RX4, "year", "(I)I"⟩
abbrev cX4_undo : ByteArray := prog_1_method_23_code
def yX4_undo : MethodName := ⟨RX4, "undo", "()I"⟩
abbrev cX4_drawn : ByteArray := prog_1_method_24_code
def yX4_drawn : MethodName := ⟨RX4, "drawn", "(II)I"⟩
abbrev cX4_part : ByteArray := prog_1_method_25_code
def yX4_part : MethodName := ⟨RX4, "part", "(I)J"⟩
abbrev cX4_image : ByteArray := prog_1_method_26_code
def yX4_image : MethodName := ⟨RX4, "image", "(I)I"⟩
abbrev cX4_from : ByteArray := prog_1_method_27_code
def yX4_from : MethodName := ⟨RX4, "from", "(I)I"⟩
abbrev cX4_status : ByteArray := prog_1_method_28_code
def yX4_status : MethodName := ⟨RX4, "status", "(I)I"⟩
abbrev cX4_count : ByteArray := prog_1_method_29_code
def yX4_count : MethodName := ⟨RX4, "count", "(I)I"⟩
abbrev cX4_digest : ByteArray := prog_1_method_30_code
def yX4_digest : MethodName := ⟨RX4, "digest", "()J"⟩
abbrev cX4_refuse : ByteArray := prog_1_method_31_code
def yX4_refuse : MethodName := ⟨RX4, "refuse", "(I)I"⟩
abbrev cX4_isRoof : ByteArray := prog_1_method_32_code
def yX4_isRoof : MethodName := ⟨RX4, "isRoof", "(I)Z"⟩
abbrev cX4_isStorm : ByteArray := prog_1_method_33_code
def yX4_isStorm : MethodName := ⟨RX4, "isStorm", "(I)Z"⟩
abbrev cX4_isPaint : ByteArray := prog_1_method_34_code
def yX4_isPaint : MethodName := ⟨RX4, "isPaint", "(I)Z"⟩
abbrev cX4_areTiles : ByteArray := prog_1_method_35_code
def yX4_areTiles : MethodName := ⟨RX4, "areTiles", "(II)Z"⟩
abbrev cX4_within : ByteArray := prog_1_method_36_code
def yX4_within : MethodName := ⟨RX4, "within", "(III)Z"⟩
def RX5 : String := "HailVotesModel"
def TX5 : u_T := fun k => match k with
  | 0 => ("HailVotesModel", "now", "[I", true)
  | 1 => ("HailVotesModel", "kept", "[I", true)
  | 2 => ("HailVotesModel", "isKept", "[Z", true)
  | 3 => ("HailVotesModel", "refused", "[I", true)
  | 4 => ("HailVotesModel", "above", "J", false)
  | 5 => ("HailVotesModel", "below", "J", false)
  | 6 => ("HailVotesModel", "hand", "[I", true)
  | 7 => ("HailVotesModel", "ages", "[I", true)
  | 8 => ("HailVotesModel", "painted", "[I", true)
  | 9 => ("HailVotesModel", "bestPainted", "[I", true)
  | 10 => ("HailVotesModel", "bestChance", "I", false)
  | 11 => ("HailVotesModel", "decided", "[Z", true)
  | 12 => ("HailVotesModel", "bytes", "[I", true)
  | 13 => ("HailVotesModel", "bytesLong", "I", false)
  | 14 => ("HailVotesModel", "tokenAt", "I", false)
  | 15 => ("HailVotesModel", "tokenLong", "I", false)
  | 16 => ("HailVotesModel", "token", "I", false)
  | 17 => ("HailVotesModel", "value", "I", false)
  | 18 => ("HailVotesModel", "next", "[I", true)
  | _ => ("HailVotesModel", "values", "[I", true)
def tyX5 : Nat → FieldType := fun k => match k with
  | 0 => .array .int
  | 1 => .array .int
  | 2 => .array .boolean
  | 3 => .array .int
  | 4 => .long
  | 5 => .long
  | 6 => .array .int
  | 7 => .array .int
  | 8 => .array .int
  | 9 => .array .int
  | 10 => .int
  | 11 => .array .boolean
  | 12 => .array .int
  | 13 => .int
  | 14 => .int
  | 15 => .int
  | 16 => .int
  | 17 => .int
  | 18 => .array .int
  | _ => .array .int
abbrev wsX50 : List Cond := u_ws RX5 TX5 20
theorem nmX5 : ∀ a, a < 20 → ∀ b, b < 20 → a ≠ b → (TX5 a).2.1 ≠ (TX5 b).2.1 := by decide +kernel
theorem tyX5_ok : ∀ k, k < 20 → parseFieldDescriptor (TX5 k).2.2.1 = some (tyX5 k) := by decide +kernel
abbrev cX5_init : ByteArray := prog_7_method_1_code
def yX5_init : MethodName := ⟨RX5, "<init>", "()V"⟩
abbrev cX5_in : ByteArray := prog_7_method_3_code
def yX5_in : MethodName := ⟨RX5, "in", "(JJJ)Z"⟩
abbrev cX5_bad : ByteArray := prog_7_method_4_code
def yX5_bad : MethodName := ⟨RX5, "bad", "(I)I"⟩
abbrev cX5_no : ByteArray := prog_7_method_5_code
def yX5_no : MethodName := ⟨RX5, "no", "(I)I"⟩
abbrev cX5_full : ByteArray := prog_7_method_6_code
def yX5_full : MethodName := ⟨RX5, "full", "()I"⟩
abbrev cX5_tell : ByteArray := prog_7_method_7_code
def yX5_tell : MethodName := ⟨RX5, "tell", "(JJ)I"⟩
abbrev cX5_roofs : ByteArray := prog_7_method_8_code
def yX5_roofs : MethodName := ⟨RX5, "roofs", "()I"⟩
abbrev cX5_storms : ByteArray := prog_7_method_9_code
def yX5_storms : MethodName := ⟨RX5, "storms", "()I"⟩
abbrev cX5_isRoof : ByteArray := prog_7_method_10_code
def yX5_isRoof : MethodName := ⟨RX5, "isRoof", "(I)Z"⟩
abbrev cX5_isStorm : ByteArray := prog_7_method_11_code
def yX5_isStorm : MethodName := ⟨RX5, "isStorm", "(I)Z"⟩
abbrev cX5_of : ByteArray := prog_7_method_12_code
def yX5_of : MethodName := ⟨RX5, "of", "(II)I"⟩
abbrev cX5_isRoofTold : ByteArray := prog_7_method_13_code
def yX5_isRoofTold : MethodName := ⟨RX5, "isRoofTold", "(IIIIII)Z"⟩
abbrev cX5_layRoof : ByteArray := prog_7_method_14_code
def yX5_layRoof : MethodName := ⟨RX5, "layRoof", "([IIIIIIII)V"⟩
abbrev cX5_roof : ByteArray := prog_7_method_15_code
def yX5_roof : MethodName := ⟨RX5, "roof", "(IIIIII)I"⟩
abbrev cX5_layStorm : ByteArray := prog_7_method_16_code
def yX5_layStorm : MethodName := ⟨RX5, "layStorm", "([IIIIIII)V"⟩
abbrev cX5_storm : ByteArray := prog_7_method_17_code
def yX5_storm : MethodName := ⟨RX5, "storm", "(IIIII)I"⟩
abbrev cX5_cannon : ByteArray := prog_7_method_18_code
def yX5_cannon : MethodName := ⟨RX5, "cannon", "(IZ)I"⟩
abbrev cX5_tiles : ByteArray := prog_7_method_19_code
def yX5_tiles : MethodName := ⟨RX5, "tiles", "(III)I"⟩
abbrev cX5_takeNow : ByteArray := prog_7_method_20_code
def yX5_takeNow : MethodName := ⟨RX5, "takeNow", "()V"⟩
abbrev cX5_cannonAt : ByteArray := prog_7_method_21_code
def yX5_cannonAt : MethodName := ⟨RX5, "cannonAt", "(I)I"⟩
abbrev cX5_forceOf : ByteArray := prog_7_method_22_code
def yX5_forceOf : MethodName := ⟨RX5, "forceOf", "(III)I"⟩
abbrev cX5_force : ByteArray := prog_7_method_23_code
def yX5_force : MethodName := ⟨RX5, "force", "(III)I"⟩
abbrev cX5_hits : ByteArray := prog_7_method_24_code
def yX5_hits : MethodName := ⟨RX5, "hits", "(II)I"⟩
abbrev cX5_breaksOf : ByteArray := prog_7_method_25_code
def yX5_breaksOf : MethodName := ⟨RX5, "breaksOf", "(IIII)I"⟩
abbrev cX5_breaksAll : ByteArray := prog_7_method_26_code
def yX5_breaksAll : MethodName := ⟨RX5, "breaksAll", "(III)I"⟩
abbrev cX5_brokenBy : ByteArray := prog_7_method_27_code
def yX5_brokenBy : MethodName := ⟨RX5, "brokenBy", "(II)I"⟩
abbrev cX5_breaks : ByteArray := prog_7_method_28_code
def yX5_breaks : MethodName := ⟨RX5, "breaks", "(III)I"⟩
abbrev cX5_winner : ByteArray := prog_7_method_29_code
def yX5_winner : MethodName := ⟨RX5, "winner", "(I)I"⟩
abbrev cX5_wins : ByteArray := prog_7_method_30_code
def yX5_wins : MethodName := ⟨RX5, "wins", "(I)I"⟩
abbrev cX5_allChances : ByteArray := prog_7_method_31_code
def yX5_allChances : MethodName := ⟨RX5, "allChances", "()I"⟩
abbrev cX5_chanceOf : ByteArray := prog_7_method_32_code
def yX5_chanceOf : MethodName := ⟨RX5, "chanceOf", "(I)I"⟩
abbrev cX5_odds : ByteArray := prog_7_method_33_code
def yX5_odds : MethodName := ⟨RX5, "odds", "(I)I"⟩
abbrev cX5_brushOn : ByteArray := prog_7_method_34_code
def yX5_brushOn : MethodName := ⟨RX5, "brushOn", "(III)V"⟩
abbrev cX5_findPaint : ByteArray := prog_7_method_35_code
def yX5_findPaint : MethodName := ⟨RX5, "findPaint", "(II)V"⟩
abbrev cX5_paint : ByteArray := prog_7_method_36_code
def yX5_paint : MethodName := ⟨RX5, "paint", "(II)I"⟩
abbrev cX5_brush : ByteArray := prog_7_method_37_code
def yX5_brush : MethodName := ⟨RX5, "brush", "(IIII)I"⟩
abbrev cX5_leastOver : ByteArray := prog_7_method_38_code
def yX5_leastOver : MethodName := ⟨RX5, "leastOver", "()I"⟩
abbrev cX5_against : ByteArray := prog_7_method_39_code
def yX5_against : MethodName := ⟨RX5, "against", "()I"⟩
abbrev cX5_findDecided : ByteArray := prog_7_method_40_code
def yX5_findDecided : MethodName := ⟨RX5, "findDecided", "(I)I"⟩
abbrev cX5_decides : ByteArray := prog_7_method_41_code
def yX5_decides : MethodName := ⟨RX5, "decides", "(I)I"⟩
abbrev cX5_power : ByteArray := prog_7_method_42_code
def yX5_power : MethodName := ⟨RX5, "power", "(I)I"⟩
abbrev cX5_shield : ByteArray := prog_7_method_43_code
def yX5_shield : MethodName := ⟨RX5, "shield", "(I)I"⟩
abbrev cX5_shards : ByteArray := prog_7_method_44_code
def yX5_shards : MethodName := ⟨RX5, "shards", "(III)I"⟩
abbrev cX5_isTold : ByteArray := prog_7_method_45_code
def yX5_isTold : MethodName := ⟨RX5, "isTold", "(I)Z"⟩
abbrev cX5_breaksSo : ByteArray := prog_7_method_46_code
def yX5_breaksSo : MethodName := ⟨RX5, "breaksSo", "(II)Z"⟩
abbrev cX5_which : ByteArray := prog_7_method_47_code
def yX5_which : MethodName := ⟨RX5, "which", "(I)I"⟩
abbrev cX5_choose : ByteArray := prog_7_method_48_code
def yX5_choose : MethodName := ⟨RX5, "choose", "(II)J"⟩
abbrev cX5_recount : ByteArray := prog_7_method_49_code
def yX5_recount : MethodName := ⟨RX5, "recount", "(II)I"⟩
abbrev cX5_goYear : ByteArray := prog_7_method_50_code
def yX5_goYear : MethodName := ⟨RX5, "goYear", "(I)I"⟩
abbrev cX5_keepYear : ByteArray := prog_7_method_51_code
def yX5_keepYear : MethodName := ⟨RX5, "keepYear", "()V"⟩
abbrev cX5_year : ByteArray := prog_7_method_52_code
def yX5_year : MethodName := ⟨RX5, "year", "(I)I"⟩
abbrev cX5_undo : ByteArray := prog_7_method_53_code
def yX5_undo : MethodName := ⟨RX5, "undo", "()I"⟩
abbrev cX5_drawn : ByteArray := prog_7_method_54_code
def yX5_drawn : MethodName := ⟨RX5, "drawn", "(II)I"⟩
abbrev cX5_type : ByteArray := prog_7_method_55_code
def yX5_type : MethodName := ⟨RX5, "type", "(JI)I"⟩
abbrev cX5_clear : ByteArray := prog_7_method_56_code
def yX5_clear : MethodName := ⟨RX5, "clear", "()I"⟩
abbrev cX5_isSmall : ByteArray := prog_7_method_57_code
def yX5_isSmall : MethodName := ⟨RX5, "isSmall", "(I)Z"⟩
abbrev cX5_isFigure : ByteArray := prog_7_method_58_code
def yX5_isFigure : MethodName := ⟨RX5, "isFigure", "(I)Z"⟩
abbrev cX5_look : ByteArray := prog_7_method_59_code
def yX5_look : MethodName := ⟨RX5, "look", "(I)V"⟩
abbrev cX5_goOn : ByteArray := prog_7_method_60_code
def yX5_goOn : MethodName := ⟨RX5, "goOn", "()V"⟩
abbrev cX5_isWord : ByteArray := prog_7_method_61_code
def yX5_isWord : MethodName := ⟨RX5, "isWord", "(IIIIII)Z"⟩
abbrev cX5_takes : ByteArray := prog_7_method_62_code
def yX5_takes : MethodName := ⟨RX5, "takes", "(III)Z"⟩
abbrev cX5_readsRoof : ByteArray := prog_7_method_63_code
def yX5_readsRoof : MethodName := ⟨RX5, "readsRoof", "()Z"⟩
abbrev cX5_readsStorm : ByteArray := prog_7_method_64_code
def yX5_readsStorm : MethodName := ⟨RX5, "readsStorm", "()Z"⟩
abbrev cX5_readsCannon : ByteArray := prog_7_method_65_code
def yX5_readsCannon : MethodName := ⟨RX5, "readsCannon", "()Z"⟩
abbrev cX5_readsItem : ByteArray := prog_7_method_66_code
def yX5_readsItem : MethodName := ⟨RX5, "readsItem", "()Z"⟩
abbrev cX5_read : ByteArray := prog_7_method_67_code
def yX5_read : MethodName := ⟨RX5, "read", "()I"⟩
abbrev cX5_part : ByteArray := prog_7_method_68_code
def yX5_part : MethodName := ⟨RX5, "part", "(I)J"⟩
abbrev cX5_image : ByteArray := prog_7_method_69_code
def yX5_image : MethodName := ⟨RX5, "image", "(I)I"⟩
abbrev cX5_from : ByteArray := prog_7_method_70_code
def yX5_from : MethodName := ⟨RX5, "from", "(I)I"⟩
abbrev cX5_status : ByteArray := prog_7_method_71_code
def yX5_status : MethodName := ⟨RX5, "status", "(I)I"⟩
abbrev cX5_cannons : ByteArray := prog_7_method_72_code
def yX5_cannons : MethodName := ⟨RX5, "cannons", "()I"⟩
abbrev cX5_counted : ByteArray := prog_7_method_73_code
def yX5_counted : MethodName := ⟨RX5, "counted", "(I)I"⟩
abbrev cX5_count : ByteArray := prog_7_method_74_code
def yX5_count : MethodName := ⟨RX5, "count", "(I)I"⟩
abbrev cX5_sums : ByteArray := prog_7_method_75_code
def yX5_sums : MethodName := ⟨RX5, "sums", "(JII)J"⟩
abbrev cX5_digest : ByteArray := prog_7_method_76_code
def yX5_digest : MethodName := ⟨RX5, "digest", "()J"⟩
def RJ9 : String := "java/lang/Math"
def TJ9 : u_T := fun k => match k with
  | _ => ("", "", "", false)
def tyJ9 : Nat → FieldType := fun k => match k with
  | _ => .int
abbrev wsJ90 : List Cond := u_ws RJ9 TJ9 0
theorem nmJ9 : ∀ a, a < 0 → ∀ b, b < 0 → a ≠ b → (TJ9 a).2.1 ≠ (TJ9 b).2.1 := by decide +kernel
theorem tyJ9_ok : ∀ k, k < 0 → parseFieldDescriptor (TJ9 k).2.2.1 = some (tyJ9 k) := by decide +kernel
abbrev cJ9_abs_067f4 : ByteArray := prog_8_method_61_code
def yJ9_abs_067f4 : MethodName := ⟨RJ9, "abs", "(J)J"⟩
abbrev cJ9_max_7cf53 : ByteArray := prog_8_method_65_code
def yJ9_max_7cf53 : MethodName := ⟨RJ9, "max", "(II)I"⟩
abbrev cJ9_min_7cf53 : ByteArray := prog_8_method_69_code
def yJ9_min_7cf53 : MethodName := ⟨RJ9, "min", "(II)I"⟩
def RJ0 : String := "java/lang/String"
def TJ0 : u_T := fun k => match k with
  | _ => ("", "", "", false)
def tyJ0 : Nat → FieldType := fun k => match k with
  | _ => .int
abbrev wsJ00 : List Cond := u_ws RJ0 TJ0 0
theorem nmJ0 : ∀ a, a < 0 → ∀ b, b < 0 → a ≠ b → (TJ0 a).2.1 ≠ (TJ0 b).2.1 := by decide +kernel
theorem tyJ0_ok : ∀ k, k < 0 → parseFieldDescriptor (TJ0 k).2.2.1 = some (tyJ0 k) := by decide +kernel
abbrev cJ0_length_8abf5 : ByteArray := prog_9_method_54_code
def yJ0_length_8abf5 : MethodName := ⟨RJ0, "length", "()I"⟩
abbrev cJ0_charAt_5068e : ByteArray := prog_9_method_56_code
def yJ0_charAt_5068e : MethodName := ⟨RJ0, "charAt", "(I)C"⟩
abbrev cJ0_coder_7d493 : ByteArray := prog_9_method_152_code
def yJ0_coder_7d493 : MethodName := ⟨RJ0, "coder", "()B"⟩
abbrev cJ0_isLatin1_aae02 : ByteArray := prog_9_method_154_code
def yJ0_isLatin1_aae02 : MethodName := ⟨RJ0, "isLatin1", "()Z"⟩
abbrev cJ0_checkIndex_df160 : ByteArray := prog_9_method_155_code
def yJ0_checkIndex_df160 : MethodName := ⟨RJ0, "checkIndex", "(II)V"⟩
def RJ1 : String := "java/lang/StringLatin1"
def TJ1 : u_T := fun k => match k with
  | _ => ("", "", "", false)
def tyJ1 : Nat → FieldType := fun k => match k with
  | _ => .int
abbrev wsJ10 : List Cond := u_ws RJ1 TJ1 0
theorem nmJ1 : ∀ a, a < 0 → ∀ b, b < 0 → a ≠ b → (TJ1 a).2.1 ≠ (TJ1 b).2.1 := by decide +kernel
theorem tyJ1_ok : ∀ k, k < 0 → parseFieldDescriptor (TJ1 k).2.2.1 = some (tyJ1 k) := by decide +kernel
abbrev cJ1_charAt_3b067 : ByteArray := prog_10_method_2_code
def yJ1_charAt_3b067 : MethodName := ⟨RJ1, "charAt", "([BI)C"⟩
def RJ2 : String := "java/lang/StringUTF16"
def TJ2 : u_T := fun k => match k with
  | _ => ("", "", "", false)
def tyJ2 : Nat → FieldType := fun k => match k with
  | _ => .int
abbrev wsJ20 : List Cond := u_ws RJ2 TJ2 0
theorem nmJ2 : ∀ a, a < 0 → ∀ b, b < 0 → a ≠ b → (TJ2 a).2.1 ≠ (TJ2 b).2.1 := by decide +kernel
theorem tyJ2_ok : ∀ k, k < 0 → parseFieldDescriptor (TJ2 k).2.2.1 = some (tyJ2 k) := by decide +kernel
abbrev cJ2_getChar_3b067 : ByteArray := prog_11_method_5_code
def yJ2_getChar_3b067 : MethodName := ⟨RJ2, "getChar", "([BI)C"⟩
abbrev cJ2_length_9d52b : ByteArray := prog_11_method_6_code
def yJ2_length_9d52b : MethodName := ⟨RJ2, "length", "([B)I"⟩
abbrev cJ2_charAt_3b067 : ByteArray := prog_11_method_83_code
def yJ2_charAt_3b067 : MethodName := ⟨RJ2, "charAt", "([BI)C"⟩
abbrev cJ2_checkIndex_2214a : ByteArray := prog_11_method_91_code
def yJ2_checkIndex_2214a : MethodName := ⟨RJ2, "checkIndex", "(I[B)V"⟩
def RJ10 : String := "java/lang/System"
def TJ10 : u_T := fun k => match k with
  | _ => ("", "", "", false)
def tyJ10 : Nat → FieldType := fun k => match k with
  | _ => .int
abbrev wsJ100 : List Cond := u_ws RJ10 TJ10 0
theorem nmJ10 : ∀ a, a < 0 → ∀ b, b < 0 → a ≠ b → (TJ10 a).2.1 ≠ (TJ10 b).2.1 := by decide +kernel
theorem tyJ10_ok : ∀ k, k < 0 → parseFieldDescriptor (TJ10 k).2.2.1 = some (tyJ10 k) := by decide +kernel
def RJ3 : String := "jdk/internal/util/Preconditions"
def TJ3 : u_T := fun k => match k with
  | _ => ("", "", "", false)
def tyJ3 : Nat → FieldType := fun k => match k with
  | _ => .int
abbrev wsJ30 : List Cond := u_ws RJ3 TJ3 0
theorem nmJ3 : ∀ a, a < 0 → ∀ b, b < 0 → a ≠ b → (TJ3 a).2.1 ≠ (TJ3 b).2.1 := by decide +kernel
theorem tyJ3_ok : ∀ k, k < 0 → parseFieldDescriptor (TJ3 k).2.2.1 = some (tyJ3 k) := by decide +kernel
abbrev cJ3_checkIndex_8e157 : ByteArray := prog_13_method_11_code
def yJ3_checkIndex_8e157 : MethodName := ⟨RJ3, "checkIndex", "(IILjava/util/function/BiFunction;)I"⟩
def RL : String := "HailVotesLaw"
abbrev cL_law : ByteArray := code
def yL_law : MethodName := ⟨RL, "law", "([I)Z"⟩
abbrev vwCl : List vw_C := [(RX0, TX0, 14), (RX1, TX1, 2), (RX2, TX2, 6), (RX3, TX3, 4), (RX4, TX4, 9), (RX5, TX5, 20)]
theorem inX0 : ∀ w ∈ wsX00, w ∈ lw_tbl := by decide +kernel
theorem inX1 : ∀ w ∈ wsX10, w ∈ lw_tbl := by decide +kernel
theorem inX2 : ∀ w ∈ wsX20, w ∈ lw_tbl := by decide +kernel
theorem inX3 : ∀ w ∈ wsX30, w ∈ lw_tbl := by decide +kernel
theorem inX4 : ∀ w ∈ wsX40, w ∈ lw_tbl := by decide +kernel
theorem inX5 : ∀ w ∈ wsX50, w ∈ lw_tbl := by decide +kernel
