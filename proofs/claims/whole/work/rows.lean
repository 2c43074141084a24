section
-- ===== PART A: goes FIRST, ahead of the names: the tables' words, and 'selects' of the private methods out of them =====
/-- a private method of a class that the tables say can be made, by its rows of tables_1 -/
def lw_okq (q : MethodName × Nat) : Prop := (q.1.cls ≠ "java/lang/invoke/MethodHandle" ∧ q.1.cls ≠ "java/lang/invoke/VarHandle") ∧ Cond.instantiable q.1.cls q.2 ∈ tables_1 ∧ Cond.privateMethod q.1 ∈ tables_1 ∧ Cond.instanceMethod q.1 ∈ tables_1
theorem lw_p0 : lw_okq (⟨"HailVotes", "refuse", "(I)I"⟩, 9) := ⟨⟨by decide +kernel, by decide +kernel⟩, List.mem_of_getElem? (i := 14) (by decide +kernel), List.mem_of_getElem? (i := 186) (by decide +kernel), List.mem_of_getElem? (i := 187) (by decide +kernel)⟩
theorem lw_p1 : lw_okq (⟨"HailVotes", "isRoof", "(I)Z"⟩, 9) := ⟨⟨by decide +kernel, by decide +kernel⟩, List.mem_of_getElem? (i := 14) (by decide +kernel), List.mem_of_getElem? (i := 213) (by decide +kernel), List.mem_of_getElem? (i := 214) (by decide +kernel)⟩
theorem lw_p2 : lw_okq (⟨"HailVotes$Reader", "nextToken", "()V"⟩, 6) := ⟨⟨by decide +kernel, by decide +kernel⟩, List.mem_of_getElem? (i := 105) (by decide +kernel), List.mem_of_getElem? (i := 245) (by decide +kernel), List.mem_of_getElem? (i := 246) (by decide +kernel)⟩
theorem lw_p3 : lw_okq (⟨"HailVotes$Reader", "endOfRun", "(III)I"⟩, 6) := ⟨⟨by decide +kernel, by decide +kernel⟩, List.mem_of_getElem? (i := 105) (by decide +kernel), List.mem_of_getElem? (i := 249) (by decide +kernel), List.mem_of_getElem? (i := 250) (by decide +kernel)⟩
theorem lw_p4 : lw_okq (⟨"HailVotes$Reader", "readItem", "(LHailVotes$Canton;)Z"⟩, 6) := ⟨⟨by decide +kernel, by decide +kernel⟩, List.mem_of_getElem? (i := 105) (by decide +kernel), List.mem_of_getElem? (i := 254) (by decide +kernel), List.mem_of_getElem? (i := 255) (by decide +kernel)⟩
theorem lw_p5 : lw_okq (⟨"HailVotes$Reader", "isWord", "(Ljava/lang/String;)Z"⟩, 6) := ⟨⟨by decide +kernel, by decide +kernel⟩, List.mem_of_getElem? (i := 105) (by decide +kernel), List.mem_of_getElem? (i := 259) (by decide +kernel), List.mem_of_getElem? (i := 260) (by decide +kernel)⟩
theorem lw_p6 : lw_okq (⟨"HailVotes$Reader", "readRoof", "(LHailVotes$Canton;)Z"⟩, 6) := ⟨⟨by decide +kernel, by decide +kernel⟩, List.mem_of_getElem? (i := 105) (by decide +kernel), List.mem_of_getElem? (i := 311) (by decide +kernel), List.mem_of_getElem? (i := 312) (by decide +kernel)⟩
theorem lw_p7 : lw_okq (⟨"HailVotes$Reader", "readNumber", "(III)Z"⟩, 6) := ⟨⟨by decide +kernel, by decide +kernel⟩, List.mem_of_getElem? (i := 105) (by decide +kernel), List.mem_of_getElem? (i := 315) (by decide +kernel), List.mem_of_getElem? (i := 316) (by decide +kernel)⟩
theorem lw_p8 : lw_okq (⟨"HailVotes$Reader", "readStop", "()Z"⟩, 6) := ⟨⟨by decide +kernel, by decide +kernel⟩, List.mem_of_getElem? (i := 105) (by decide +kernel), List.mem_of_getElem? (i := 319) (by decide +kernel), List.mem_of_getElem? (i := 320) (by decide +kernel)⟩
theorem lw_p9 : lw_okq (⟨"HailVotes$Reader", "readStorm", "(LHailVotes$Canton;)Z"⟩, 6) := ⟨⟨by decide +kernel, by decide +kernel⟩, List.mem_of_getElem? (i := 105) (by decide +kernel), List.mem_of_getElem? (i := 325) (by decide +kernel), List.mem_of_getElem? (i := 326) (by decide +kernel)⟩
theorem lw_p10 : lw_okq (⟨"HailVotes$Reader", "readCannon", "(LHailVotes$Canton;)Z"⟩, 6) := ⟨⟨by decide +kernel, by decide +kernel⟩, List.mem_of_getElem? (i := 105) (by decide +kernel), List.mem_of_getElem? (i := 331) (by decide +kernel), List.mem_of_getElem? (i := 332) (by decide +kernel)⟩
theorem lw_p11 : lw_okq (⟨"HailVotes", "isStorm", "(I)Z"⟩, 9) := ⟨⟨by decide +kernel, by decide +kernel⟩, List.mem_of_getElem? (i := 14) (by decide +kernel), List.mem_of_getElem? (i := 347) (by decide +kernel), List.mem_of_getElem? (i := 348) (by decide +kernel)⟩
theorem lw_p12 : lw_okq (⟨"HailVotes$Canton", "toll", "(III)I"⟩, 14) := ⟨⟨by decide +kernel, by decide +kernel⟩, List.mem_of_getElem? (i := 28) (by decide +kernel), List.mem_of_getElem? (i := 370) (by decide +kernel), List.mem_of_getElem? (i := 371) (by decide +kernel)⟩
theorem lw_p13 : lw_okq (⟨"HailVotes$Canton", "isTold", "(I)Z"⟩, 14) := ⟨⟨by decide +kernel, by decide +kernel⟩, List.mem_of_getElem? (i := 28) (by decide +kernel), List.mem_of_getElem? (i := 468) (by decide +kernel), List.mem_of_getElem? (i := 469) (by decide +kernel)⟩
theorem lw_p14 : lw_okq (⟨"HailVotes$Canton", "breaksAsTold", "(II)Z"⟩, 14) := ⟨⟨by decide +kernel, by decide +kernel⟩, List.mem_of_getElem? (i := 28) (by decide +kernel), List.mem_of_getElem? (i := 472) (by decide +kernel), List.mem_of_getElem? (i := 473) (by decide +kernel)⟩
theorem lw_p15 : lw_okq (⟨"HailVotes$Story", "forgetOldest", "()V"⟩, 4) := ⟨⟨by decide +kernel, by decide +kernel⟩, List.mem_of_getElem? (i := 22) (by decide +kernel), List.mem_of_getElem? (i := 497) (by decide +kernel), List.mem_of_getElem? (i := 498) (by decide +kernel)⟩
def lw_privs_1 : List (MethodName × Nat) := [(⟨"HailVotes", "refuse", "(I)I"⟩, 9), (⟨"HailVotes", "isRoof", "(I)Z"⟩, 9), (⟨"HailVotes$Reader", "nextToken", "()V"⟩, 6), (⟨"HailVotes$Reader", "endOfRun", "(III)I"⟩, 6), (⟨"HailVotes$Reader", "readItem", "(LHailVotes$Canton;)Z"⟩, 6), (⟨"HailVotes$Reader", "isWord", "(Ljava/lang/String;)Z"⟩, 6), (⟨"HailVotes$Reader", "readRoof", "(LHailVotes$Canton;)Z"⟩, 6), (⟨"HailVotes$Reader", "readNumber", "(III)Z"⟩, 6), (⟨"HailVotes$Reader", "readStop", "()Z"⟩, 6), (⟨"HailVotes$Reader", "readStorm", "(LHailVotes$Canton;)Z"⟩, 6), (⟨"HailVotes$Reader", "readCannon", "(LHailVotes$Canton;)Z"⟩, 6), (⟨"HailVotes", "isStorm", "(I)Z"⟩, 9), (⟨"HailVotes$Canton", "toll", "(III)I"⟩, 14), (⟨"HailVotes$Canton", "isTold", "(I)Z"⟩, 14), (⟨"HailVotes$Canton", "breaksAsTold", "(II)Z"⟩, 14), (⟨"HailVotes$Story", "forgetOldest", "()V"⟩, 4)]
theorem lw_r1 : ∀ q ∈ lw_privs_1, lw_okq q := List.forall_mem_cons.mpr ⟨lw_p0, List.forall_mem_cons.mpr ⟨lw_p1, List.forall_mem_cons.mpr ⟨lw_p2, List.forall_mem_cons.mpr ⟨lw_p3, List.forall_mem_cons.mpr ⟨lw_p4, List.forall_mem_cons.mpr ⟨lw_p5, List.forall_mem_cons.mpr ⟨lw_p6, List.forall_mem_cons.mpr ⟨lw_p7, List.forall_mem_cons.mpr ⟨lw_p8, List.forall_mem_cons.mpr ⟨lw_p9, List.forall_mem_cons.mpr ⟨lw_p10, List.forall_mem_cons.mpr ⟨lw_p11, List.forall_mem_cons.mpr ⟨lw_p12, List.forall_mem_cons.mpr ⟨lw_p13, List.forall_mem_cons.mpr ⟨lw_p14, List.forall_mem_cons.mpr ⟨lw_p15, fun _ h => absurd h List.not_mem_nil⟩⟩⟩⟩⟩⟩⟩⟩⟩⟩⟩⟩⟩⟩⟩⟩
theorem lw_p16 : lw_okq (⟨"HailVotes$Canton", "breakSlope", "(III)I"⟩, 14) := ⟨⟨by decide +kernel, by decide +kernel⟩, List.mem_of_getElem? (i := 28) (by decide +kernel), List.mem_of_getElem? (i := 506) (by decide +kernel), List.mem_of_getElem? (i := 507) (by decide +kernel)⟩
theorem lw_p17 : lw_okq (⟨"HailVotesModel", "bad", "(I)I"⟩, 20) := ⟨⟨by decide +kernel, by decide +kernel⟩, List.mem_of_getElem? (i := 580) (by decide +kernel), List.mem_of_getElem? (i := 660) (by decide +kernel), List.mem_of_getElem? (i := 661) (by decide +kernel)⟩
theorem lw_p18 : lw_okq (⟨"HailVotesModel", "roofs", "()I"⟩, 20) := ⟨⟨by decide +kernel, by decide +kernel⟩, List.mem_of_getElem? (i := 580) (by decide +kernel), List.mem_of_getElem? (i := 664) (by decide +kernel), List.mem_of_getElem? (i := 665) (by decide +kernel)⟩
theorem lw_p19 : lw_okq (⟨"HailVotesModel", "full", "()I"⟩, 20) := ⟨⟨by decide +kernel, by decide +kernel⟩, List.mem_of_getElem? (i := 580) (by decide +kernel), List.mem_of_getElem? (i := 668) (by decide +kernel), List.mem_of_getElem? (i := 669) (by decide +kernel)⟩
theorem lw_p20 : lw_okq (⟨"HailVotesModel", "storms", "()I"⟩, 20) := ⟨⟨by decide +kernel, by decide +kernel⟩, List.mem_of_getElem? (i := 580) (by decide +kernel), List.mem_of_getElem? (i := 680) (by decide +kernel), List.mem_of_getElem? (i := 681) (by decide +kernel)⟩
theorem lw_p21 : lw_okq (⟨"HailVotesModel", "no", "(I)I"⟩, 20) := ⟨⟨by decide +kernel, by decide +kernel⟩, List.mem_of_getElem? (i := 580) (by decide +kernel), List.mem_of_getElem? (i := 691) (by decide +kernel), List.mem_of_getElem? (i := 692) (by decide +kernel)⟩
theorem lw_p22 : lw_okq (⟨"HailVotesModel", "isRoof", "(I)Z"⟩, 20) := ⟨⟨by decide +kernel, by decide +kernel⟩, List.mem_of_getElem? (i := 580) (by decide +kernel), List.mem_of_getElem? (i := 699) (by decide +kernel), List.mem_of_getElem? (i := 700) (by decide +kernel)⟩
theorem lw_p23 : lw_okq (⟨"HailVotesModel", "isStorm", "(I)Z"⟩, 20) := ⟨⟨by decide +kernel, by decide +kernel⟩, List.mem_of_getElem? (i := 580) (by decide +kernel), List.mem_of_getElem? (i := 707) (by decide +kernel), List.mem_of_getElem? (i := 708) (by decide +kernel)⟩
theorem lw_p24 : lw_okq (⟨"HailVotesModel", "forceOf", "(III)I"⟩, 20) := ⟨⟨by decide +kernel, by decide +kernel⟩, List.mem_of_getElem? (i := 580) (by decide +kernel), List.mem_of_getElem? (i := 711) (by decide +kernel), List.mem_of_getElem? (i := 712) (by decide +kernel)⟩
theorem lw_p25 : lw_okq (⟨"HailVotesModel", "of", "(II)I"⟩, 20) := ⟨⟨by decide +kernel, by decide +kernel⟩, List.mem_of_getElem? (i := 580) (by decide +kernel), List.mem_of_getElem? (i := 715) (by decide +kernel), List.mem_of_getElem? (i := 716) (by decide +kernel)⟩
theorem lw_p26 : lw_okq (⟨"HailVotesModel", "cannonAt", "(I)I"⟩, 20) := ⟨⟨by decide +kernel, by decide +kernel⟩, List.mem_of_getElem? (i := 580) (by decide +kernel), List.mem_of_getElem? (i := 719) (by decide +kernel), List.mem_of_getElem? (i := 720) (by decide +kernel)⟩
theorem lw_p27 : lw_okq (⟨"HailVotesModel", "takeNow", "()V"⟩, 20) := ⟨⟨by decide +kernel, by decide +kernel⟩, List.mem_of_getElem? (i := 580) (by decide +kernel), List.mem_of_getElem? (i := 727) (by decide +kernel), List.mem_of_getElem? (i := 728) (by decide +kernel)⟩
theorem lw_p28 : lw_okq (⟨"HailVotesModel", "brokenBy", "(II)I"⟩, 20) := ⟨⟨by decide +kernel, by decide +kernel⟩, List.mem_of_getElem? (i := 580) (by decide +kernel), List.mem_of_getElem? (i := 731) (by decide +kernel), List.mem_of_getElem? (i := 732) (by decide +kernel)⟩
theorem lw_p29 : lw_okq (⟨"HailVotesModel", "breaksAll", "(III)I"⟩, 20) := ⟨⟨by decide +kernel, by decide +kernel⟩, List.mem_of_getElem? (i := 580) (by decide +kernel), List.mem_of_getElem? (i := 735) (by decide +kernel), List.mem_of_getElem? (i := 736) (by decide +kernel)⟩
theorem lw_p30 : lw_okq (⟨"HailVotesModel", "breaksOf", "(IIII)I"⟩, 20) := ⟨⟨by decide +kernel, by decide +kernel⟩, List.mem_of_getElem? (i := 580) (by decide +kernel), List.mem_of_getElem? (i := 739) (by decide +kernel), List.mem_of_getElem? (i := 740) (by decide +kernel)⟩
theorem lw_p31 : lw_okq (⟨"HailVotesModel", "hits", "(II)I"⟩, 20) := ⟨⟨by decide +kernel, by decide +kernel⟩, List.mem_of_getElem? (i := 580) (by decide +kernel), List.mem_of_getElem? (i := 743) (by decide +kernel), List.mem_of_getElem? (i := 744) (by decide +kernel)⟩
def lw_privs_2 : List (MethodName × Nat) := [(⟨"HailVotes$Canton", "breakSlope", "(III)I"⟩, 14), (⟨"HailVotesModel", "bad", "(I)I"⟩, 20), (⟨"HailVotesModel", "roofs", "()I"⟩, 20), (⟨"HailVotesModel", "full", "()I"⟩, 20), (⟨"HailVotesModel", "storms", "()I"⟩, 20), (⟨"HailVotesModel", "no", "(I)I"⟩, 20), (⟨"HailVotesModel", "isRoof", "(I)Z"⟩, 20), (⟨"HailVotesModel", "isStorm", "(I)Z"⟩, 20), (⟨"HailVotesModel", "forceOf", "(III)I"⟩, 20), (⟨"HailVotesModel", "of", "(II)I"⟩, 20), (⟨"HailVotesModel", "cannonAt", "(I)I"⟩, 20), (⟨"HailVotesModel", "takeNow", "()V"⟩, 20), (⟨"HailVotesModel", "brokenBy", "(II)I"⟩, 20), (⟨"HailVotesModel", "breaksAll", "(III)I"⟩, 20), (⟨"HailVotesModel", "breaksOf", "(IIII)I"⟩, 20), (⟨"HailVotesModel", "hits", "(II)I"⟩, 20)]
theorem lw_r2 : ∀ q ∈ lw_privs_2, lw_okq q := List.forall_mem_cons.mpr ⟨lw_p16, List.forall_mem_cons.mpr ⟨lw_p17, List.forall_mem_cons.mpr ⟨lw_p18, List.forall_mem_cons.mpr ⟨lw_p19, List.forall_mem_cons.mpr ⟨lw_p20, List.forall_mem_cons.mpr ⟨lw_p21, List.forall_mem_cons.mpr ⟨lw_p22, List.forall_mem_cons.mpr ⟨lw_p23, List.forall_mem_cons.mpr ⟨lw_p24, List.forall_mem_cons.mpr ⟨lw_p25, List.forall_mem_cons.mpr ⟨lw_p26, List.forall_mem_cons.mpr ⟨lw_p27, List.forall_mem_cons.mpr ⟨lw_p28, List.forall_mem_cons.mpr ⟨lw_p29, List.forall_mem_cons.mpr ⟨lw_p30, List.forall_mem_cons.mpr ⟨lw_p31, fun _ h => absurd h List.not_mem_nil⟩⟩⟩⟩⟩⟩⟩⟩⟩⟩⟩⟩⟩⟩⟩⟩
theorem lw_p32 : lw_okq (⟨"HailVotesModel", "winner", "(I)I"⟩, 20) := ⟨⟨by decide +kernel, by decide +kernel⟩, List.mem_of_getElem? (i := 580) (by decide +kernel), List.mem_of_getElem? (i := 751) (by decide +kernel), List.mem_of_getElem? (i := 752) (by decide +kernel)⟩
theorem lw_p33 : lw_okq (⟨"HailVotesModel", "chanceOf", "(I)I"⟩, 20) := ⟨⟨by decide +kernel, by decide +kernel⟩, List.mem_of_getElem? (i := 580) (by decide +kernel), List.mem_of_getElem? (i := 760) (by decide +kernel), List.mem_of_getElem? (i := 761) (by decide +kernel)⟩
theorem lw_p34 : lw_okq (⟨"HailVotesModel", "allChances", "()I"⟩, 20) := ⟨⟨by decide +kernel, by decide +kernel⟩, List.mem_of_getElem? (i := 580) (by decide +kernel), List.mem_of_getElem? (i := 764) (by decide +kernel), List.mem_of_getElem? (i := 765) (by decide +kernel)⟩
theorem lw_p35 : lw_okq (⟨"HailVotesModel", "tell", "(JJ)I"⟩, 20) := ⟨⟨by decide +kernel, by decide +kernel⟩, List.mem_of_getElem? (i := 580) (by decide +kernel), List.mem_of_getElem? (i := 768) (by decide +kernel), List.mem_of_getElem? (i := 769) (by decide +kernel)⟩
theorem lw_p36 : lw_okq (⟨"HailVotesModel", "findPaint", "(II)V"⟩, 20) := ⟨⟨by decide +kernel, by decide +kernel⟩, List.mem_of_getElem? (i := 580) (by decide +kernel), List.mem_of_getElem? (i := 777) (by decide +kernel), List.mem_of_getElem? (i := 778) (by decide +kernel)⟩
theorem lw_p37 : lw_okq (⟨"HailVotesModel", "brushOn", "(III)V"⟩, 20) := ⟨⟨by decide +kernel, by decide +kernel⟩, List.mem_of_getElem? (i := 580) (by decide +kernel), List.mem_of_getElem? (i := 781) (by decide +kernel), List.mem_of_getElem? (i := 782) (by decide +kernel)⟩
theorem lw_p38 : lw_okq (⟨"HailVotesModel", "leastOver", "()I"⟩, 20) := ⟨⟨by decide +kernel, by decide +kernel⟩, List.mem_of_getElem? (i := 580) (by decide +kernel), List.mem_of_getElem? (i := 793) (by decide +kernel), List.mem_of_getElem? (i := 794) (by decide +kernel)⟩
theorem lw_p39 : lw_okq (⟨"HailVotesModel", "findDecided", "(I)I"⟩, 20) := ⟨⟨by decide +kernel, by decide +kernel⟩, List.mem_of_getElem? (i := 580) (by decide +kernel), List.mem_of_getElem? (i := 801) (by decide +kernel), List.mem_of_getElem? (i := 802) (by decide +kernel)⟩
theorem lw_p40 : lw_okq (⟨"HailVotesModel", "isTold", "(I)Z"⟩, 20) := ⟨⟨by decide +kernel, by decide +kernel⟩, List.mem_of_getElem? (i := 580) (by decide +kernel), List.mem_of_getElem? (i := 822) (by decide +kernel), List.mem_of_getElem? (i := 823) (by decide +kernel)⟩
theorem lw_p41 : lw_okq (⟨"HailVotesModel", "breaksSo", "(II)Z"⟩, 20) := ⟨⟨by decide +kernel, by decide +kernel⟩, List.mem_of_getElem? (i := 580) (by decide +kernel), List.mem_of_getElem? (i := 826) (by decide +kernel), List.mem_of_getElem? (i := 827) (by decide +kernel)⟩
theorem lw_p42 : lw_okq (⟨"HailVotesModel", "keepYear", "()V"⟩, 20) := ⟨⟨by decide +kernel, by decide +kernel⟩, List.mem_of_getElem? (i := 580) (by decide +kernel), List.mem_of_getElem? (i := 842) (by decide +kernel), List.mem_of_getElem? (i := 843) (by decide +kernel)⟩
theorem lw_p43 : lw_okq (⟨"HailVotesModel", "goYear", "(I)I"⟩, 20) := ⟨⟨by decide +kernel, by decide +kernel⟩, List.mem_of_getElem? (i := 580) (by decide +kernel), List.mem_of_getElem? (i := 846) (by decide +kernel), List.mem_of_getElem? (i := 847) (by decide +kernel)⟩
theorem lw_p44 : lw_okq (⟨"HailVotesModel", "look", "(I)V"⟩, 20) := ⟨⟨by decide +kernel, by decide +kernel⟩, List.mem_of_getElem? (i := 580) (by decide +kernel), List.mem_of_getElem? (i := 877) (by decide +kernel), List.mem_of_getElem? (i := 878) (by decide +kernel)⟩
theorem lw_p45 : lw_okq (⟨"HailVotesModel", "readsItem", "()Z"⟩, 20) := ⟨⟨by decide +kernel, by decide +kernel⟩, List.mem_of_getElem? (i := 580) (by decide +kernel), List.mem_of_getElem? (i := 891) (by decide +kernel), List.mem_of_getElem? (i := 892) (by decide +kernel)⟩
theorem lw_p46 : lw_okq (⟨"HailVotesModel", "isWord", "(IIIIII)Z"⟩, 20) := ⟨⟨by decide +kernel, by decide +kernel⟩, List.mem_of_getElem? (i := 580) (by decide +kernel), List.mem_of_getElem? (i := 895) (by decide +kernel), List.mem_of_getElem? (i := 896) (by decide +kernel)⟩
theorem lw_p47 : lw_okq (⟨"HailVotesModel", "readsRoof", "()Z"⟩, 20) := ⟨⟨by decide +kernel, by decide +kernel⟩, List.mem_of_getElem? (i := 580) (by decide +kernel), List.mem_of_getElem? (i := 899) (by decide +kernel), List.mem_of_getElem? (i := 900) (by decide +kernel)⟩
def lw_privs_3 : List (MethodName × Nat) := [(⟨"HailVotesModel", "winner", "(I)I"⟩, 20), (⟨"HailVotesModel", "chanceOf", "(I)I"⟩, 20), (⟨"HailVotesModel", "allChances", "()I"⟩, 20), (⟨"HailVotesModel", "tell", "(JJ)I"⟩, 20), (⟨"HailVotesModel", "findPaint", "(II)V"⟩, 20), (⟨"HailVotesModel", "brushOn", "(III)V"⟩, 20), (⟨"HailVotesModel", "leastOver", "()I"⟩, 20), (⟨"HailVotesModel", "findDecided", "(I)I"⟩, 20), (⟨"HailVotesModel", "isTold", "(I)Z"⟩, 20), (⟨"HailVotesModel", "breaksSo", "(II)Z"⟩, 20), (⟨"HailVotesModel", "keepYear", "()V"⟩, 20), (⟨"HailVotesModel", "goYear", "(I)I"⟩, 20), (⟨"HailVotesModel", "look", "(I)V"⟩, 20), (⟨"HailVotesModel", "readsItem", "()Z"⟩, 20), (⟨"HailVotesModel", "isWord", "(IIIIII)Z"⟩, 20), (⟨"HailVotesModel", "readsRoof", "()Z"⟩, 20)]
theorem lw_r3 : ∀ q ∈ lw_privs_3, lw_okq q := List.forall_mem_cons.mpr ⟨lw_p32, List.forall_mem_cons.mpr ⟨lw_p33, List.forall_mem_cons.mpr ⟨lw_p34, List.forall_mem_cons.mpr ⟨lw_p35, List.forall_mem_cons.mpr ⟨lw_p36, List.forall_mem_cons.mpr ⟨lw_p37, List.forall_mem_cons.mpr ⟨lw_p38, List.forall_mem_cons.mpr ⟨lw_p39, List.forall_mem_cons.mpr ⟨lw_p40, List.forall_mem_cons.mpr ⟨lw_p41, List.forall_mem_cons.mpr ⟨lw_p42, List.forall_mem_cons.mpr ⟨lw_p43, List.forall_mem_cons.mpr ⟨lw_p44, List.forall_mem_cons.mpr ⟨lw_p45, List.forall_mem_cons.mpr ⟨lw_p46, List.forall_mem_cons.mpr ⟨lw_p47, fun _ h => absurd h List.not_mem_nil⟩⟩⟩⟩⟩⟩⟩⟩⟩⟩⟩⟩⟩⟩⟩⟩
theorem lw_p48 : lw_okq (⟨"HailVotesModel", "goOn", "()V"⟩, 20) := ⟨⟨by decide +kernel, by decide +kernel⟩, List.mem_of_getElem? (i := 580) (by decide +kernel), List.mem_of_getElem? (i := 903) (by decide +kernel), List.mem_of_getElem? (i := 904) (by decide +kernel)⟩
theorem lw_p49 : lw_okq (⟨"HailVotesModel", "takes", "(III)Z"⟩, 20) := ⟨⟨by decide +kernel, by decide +kernel⟩, List.mem_of_getElem? (i := 580) (by decide +kernel), List.mem_of_getElem? (i := 907) (by decide +kernel), List.mem_of_getElem? (i := 908) (by decide +kernel)⟩
theorem lw_p50 : lw_okq (⟨"HailVotesModel", "readsStorm", "()Z"⟩, 20) := ⟨⟨by decide +kernel, by decide +kernel⟩, List.mem_of_getElem? (i := 580) (by decide +kernel), List.mem_of_getElem? (i := 911) (by decide +kernel), List.mem_of_getElem? (i := 912) (by decide +kernel)⟩
theorem lw_p51 : lw_okq (⟨"HailVotesModel", "readsCannon", "()Z"⟩, 20) := ⟨⟨by decide +kernel, by decide +kernel⟩, List.mem_of_getElem? (i := 580) (by decide +kernel), List.mem_of_getElem? (i := 915) (by decide +kernel), List.mem_of_getElem? (i := 916) (by decide +kernel)⟩
theorem lw_p52 : lw_okq (⟨"HailVotesModel", "counted", "(I)I"⟩, 20) := ⟨⟨by decide +kernel, by decide +kernel⟩, List.mem_of_getElem? (i := 580) (by decide +kernel), List.mem_of_getElem? (i := 939) (by decide +kernel), List.mem_of_getElem? (i := 940) (by decide +kernel)⟩
theorem lw_p53 : lw_okq (⟨"HailVotesModel", "cannons", "()I"⟩, 20) := ⟨⟨by decide +kernel, by decide +kernel⟩, List.mem_of_getElem? (i := 580) (by decide +kernel), List.mem_of_getElem? (i := 943) (by decide +kernel), List.mem_of_getElem? (i := 944) (by decide +kernel)⟩
theorem lw_p54 : lw_okq (⟨"HailVotesModel", "sums", "(JII)J"⟩, 20) := ⟨⟨by decide +kernel, by decide +kernel⟩, List.mem_of_getElem? (i := 580) (by decide +kernel), List.mem_of_getElem? (i := 953) (by decide +kernel), List.mem_of_getElem? (i := 954) (by decide +kernel)⟩
def lw_privs_4 : List (MethodName × Nat) := [(⟨"HailVotesModel", "goOn", "()V"⟩, 20), (⟨"HailVotesModel", "takes", "(III)Z"⟩, 20), (⟨"HailVotesModel", "readsStorm", "()Z"⟩, 20), (⟨"HailVotesModel", "readsCannon", "()Z"⟩, 20), (⟨"HailVotesModel", "counted", "(I)I"⟩, 20), (⟨"HailVotesModel", "cannons", "()I"⟩, 20), (⟨"HailVotesModel", "sums", "(JII)J"⟩, 20)]
theorem lw_r4 : ∀ q ∈ lw_privs_4, lw_okq q := List.forall_mem_cons.mpr ⟨lw_p48, List.forall_mem_cons.mpr ⟨lw_p49, List.forall_mem_cons.mpr ⟨lw_p50, List.forall_mem_cons.mpr ⟨lw_p51, List.forall_mem_cons.mpr ⟨lw_p52, List.forall_mem_cons.mpr ⟨lw_p53, List.forall_mem_cons.mpr ⟨lw_p54, fun _ h => absurd h List.not_mem_nil⟩⟩⟩⟩⟩⟩⟩
def lw_privs : List (MethodName × Nat) := lw_privs_1 ++ (lw_privs_2 ++ (lw_privs_3 ++ (lw_privs_4)))
def lw_tbl : List Cond := k2_sels lw_privs ++ tables_1
theorem lw_privs_ok : ∀ q ∈ lw_privs, lw_okq q := by
  show ∀ q ∈ lw_privs_1 ++ (lw_privs_2 ++ (lw_privs_3 ++ (lw_privs_4))), lw_okq q
  exact List.forall_mem_append.mpr ⟨lw_r1, List.forall_mem_append.mpr ⟨lw_r2, List.forall_mem_append.mpr ⟨lw_r3, lw_r4⟩⟩⟩

/-! ===== BEGIN words of one list among another's, by their places ===== -/
theorem goodIn_r {big : List Cond} (ws : List Cond) (ps : List Nat) (hp : ws = ps.filterMap (fun i => big[i]?)) (h : ws.all goodWord = true) : GoodIn big ws := by
  intro w hw
  have h1 := List.all_eq_true.mp h w hw
  rw [hp] at hw
  obtain ⟨i, -, hi⟩ := List.mem_filterMap.mp hw
  have hm : w ∈ big := by first | exact List.mem_of_getElem? hi | exact List.getElem?_mem hi
  exact ⟨hm, good_of_word h1⟩
theorem goodIn_app {big a b : List Cond} (ha : GoodIn big a) (hb : GoodIn big b) : GoodIn big (a ++ b) := fun w h => (List.mem_append.mp h).elim (ha w) (hb w)
theorem goodIn_ca {big a b : List Cond} {c : Cond} (ha : GoodIn big (c :: a)) (hb : GoodIn big b) : GoodIn big (c :: (a ++ b)) := fun w h => (List.mem_cons.mp h).elim (fun e => ha w (List.mem_cons.mpr (Or.inl e))) (fun h => (List.mem_append.mp h).elim (fun h => ha w (List.mem_cons.mpr (Or.inr h))) (hb w))
theorem goodIn_sub {big ws : List Cond} (hm : ∀ w ∈ ws, w ∈ big) (h : ws.all goodWord = true) : GoodIn big ws := fun w hw => ⟨hm w hw, good_of_word (List.all_eq_true.mp h w hw)⟩
/-! ===== END ===== -/

/-! ===== BEGIN printed: names, fields, word lists, decode rows ===== -/
def RX0 : String := "HailVotes$Canton"
def TX0 : u_T := fun k => match k with
  | 0 => ("HailVotes$Canton", "roofs", "I", false)
  | 1 => ("HailVotes$Canton", "storms", "I", false)
  | 2 => ("HailVotes$Canton", "years", "I", false)
  | 3 => ("HailVotes$Canton", "kind", "[I", true)
  | 4 => ("HailVotes$Canton", "age", "[I", true)
  | 5 => ("HailVotes$Canton", "cover", "[I", true)
  | 6 => ("HailVotes$Canton", "blueShards", "[I", true)
  | 7 => ("HailVotes$Canton", "brownShards", "[I", true)
  | 8 => ("HailVotes$Canton", "first", "[I", true)
  | 9 => ("HailVotes$Canton", "last", "[I", true)
  | 10 => ("HailVotes$Canton", "wind", "[I", true)
  | 11 => ("HailVotes$Canton", "size", "[I", true)
  | 12 => ("HailVotes$Canton", "chance", "[I", true)
  | _ => ("HailVotes$Canton", "guns", "[I", true)
def tyX0 : Nat → FieldType := fun k => match k with
  | 0 => .int
  | 1 => .int
  | 2 => .int
  | 3 => .array .int
  | 4 => .array .int
  | 5 => .array .int
  | 6 => .array .int
  | 7 => .array .int
  | 8 => .array .int
  | 9 => .array .int
  | 10 => .array .int
  | 11 => .array .int
  | 12 => .array .int
  | _ => .array .int
abbrev wsX00 : List Cond := u_ws RX0 TX0 14
theorem nmX0 : ∀ a, a < 14 → ∀ b, b < 14 → a ≠ b → (TX0 a).2.1 ≠ (TX0 b).2.1 := by decide +kernel
theorem tyX0_ok : ∀ k, k < 14 → parseFieldDescriptor (TX0 k).2.2.1 = some (tyX0 k) := by decide +kernel
abbrev cX0_init : ByteArray := prog_2_method_1_code
def yX0_init : MethodName := ⟨RX0, "<init>", "()V"⟩
abbrev cX0_row : ByteArray := prog_2_method_2_code
def yX0_row : MethodName := ⟨RX0, "row", "(III)I"⟩
abbrev cX0_empty : ByteArray := prog_2_method_3_code
def yX0_empty : MethodName := ⟨RX0, "empty", "()V"⟩
abbrev cX0_become : ByteArray := prog_2_method_4_code
def yX0_become : MethodName := ⟨RX0, "become", "(LHailVotes$Canton;)V"⟩
abbrev cX0_addRoof : ByteArray := prog_2_method_5_code
def yX0_addRoof : MethodName := ⟨RX0, "addRoof", "(IIIIII)I"⟩
abbrev cX0_addStorm : ByteArray := prog_2_method_6_code
def yX0_addStorm : MethodName := ⟨RX0, "addStorm", "(IIIII)I"⟩
abbrev cX0_allGuns : ByteArray := prog_2_method_7_code
def yX0_allGuns : MethodName := ⟨RX0, "allGuns", "()I"⟩
abbrev cX0_forceOn : ByteArray := prog_2_method_8_code
def yX0_forceOn : MethodName := ⟨RX0, "forceOn", "(III)I"⟩
abbrev cX0_toll : ByteArray := prog_2_method_9_code
def yX0_toll : MethodName := ⟨RX0, "toll", "(III)I"⟩
abbrev cX0_brokenOf : ByteArray := prog_2_method_10_code
def yX0_brokenOf : MethodName := ⟨RX0, "brokenOf", "(III)I"⟩
abbrev cX0_brokenInAll : ByteArray := prog_2_method_11_code
def yX0_brokenInAll : MethodName := ⟨RX0, "brokenInAll", "(II)I"⟩
abbrev cX0_lead : ByteArray := prog_2_method_12_code
def yX0_lead : MethodName := ⟨RX0, "lead", "(I)I"⟩
abbrev cX0_winnerBy : ByteArray := prog_2_method_13_code
def yX0_winnerBy : MethodName := ⟨RX0, "winnerBy", "(I)I"⟩
abbrev cX0_isDecidedBy : ByteArray := prog_2_method_14_code
def yX0_isDecidedBy : MethodName := ⟨RX0, "isDecidedBy", "(II)Z"⟩
abbrev cX0_allChances : ByteArray := prog_2_method_15_code
def yX0_allChances : MethodName := ⟨RX0, "allChances", "()I"⟩
abbrev cX0_chancesOf : ByteArray := prog_2_method_16_code
def yX0_chancesOf : MethodName := ⟨RX0, "chancesOf", "(I)I"⟩
abbrev cX0_chancesWithGun : ByteArray := prog_2_method_17_code
def yX0_chancesWithGun : MethodName := ⟨RX0, "chancesWithGun", "(II)I"⟩
abbrev cX0_edgeOfBlue : ByteArray := prog_2_method_18_code
def yX0_edgeOfBlue : MethodName := ⟨RX0, "edgeOfBlue", "()I"⟩
abbrev cX0_keepsEdge : ByteArray := prog_2_method_19_code
def yX0_keepsEdge : MethodName := ⟨RX0, "keepsEdge", "(II)Z"⟩
abbrev cX0_isTold : ByteArray := prog_2_method_20_code
def yX0_isTold : MethodName := ⟨RX0, "isTold", "(I)Z"⟩
abbrev cX0_breaksAsTold : ByteArray := prog_2_method_21_code
def yX0_breaksAsTold : MethodName := ⟨RX0, "breaksAsTold", "(II)Z"⟩
abbrev cX0_stormsThatFit : ByteArray := prog_2_method_22_code
def yX0_stormsThatFit : MethodName := ⟨RX0, "stormsThatFit", "()I"⟩
abbrev cX0_roofsByHand : ByteArray := prog_2_method_23_code
def yX0_roofsByHand : MethodName := ⟨RX0, "roofsByHand", "()I"⟩
abbrev cX0_passYear : ByteArray := prog_2_method_24_code
def yX0_passYear : MethodName := ⟨RX0, "passYear", "(I)I"⟩
abbrev cX0_breakSlope : ByteArray := prog_2_method_25_code
def yX0_breakSlope : MethodName := ⟨RX0, "breakSlope", "(III)I"⟩
abbrev cX0_stormAt : ByteArray := prog_2_method_26_code
def yX0_stormAt : MethodName := ⟨RX0, "stormAt", "(J)I"⟩
abbrev cX0_mixRoofs : ByteArray := prog_2_method_27_code
def yX0_mixRoofs : MethodName := ⟨RX0, "mixRoofs", "(J)J"⟩
abbrev cX0_mixStorms : ByteArray := prog_2_method_28_code
def yX0_mixStorms : MethodName := ⟨RX0, "mixStorms", "(J)J"⟩
abbrev cX0_mixGuns : ByteArray := prog_2_method_29_code
def yX0_mixGuns : MethodName := ⟨RX0, "mixGuns", "(J)J"⟩
def RX1 : String := "HailVotes$Fraction"
def TX1 : u_T := fun k => match k with
  | 0 => ("HailVotes$Fraction", "above", "J", false)
  | _ => ("HailVotes$Fraction", "below", "J", false)
def tyX1 : Nat → FieldType := fun k => match k with
  | 0 => .long
  | _ => .long
abbrev wsX10 : List Cond := u_ws RX1 TX1 2
theorem nmX1 : ∀ a, a < 2 → ∀ b, b < 2 → a ≠ b → (TX1 a).2.1 ≠ (TX1 b).2.1 := by decide +kernel
theorem tyX1_ok : ∀ k, k < 2 → parseFieldDescriptor (TX1 k).2.2.1 = some (tyX1 k) := by decide +kernel
abbrev cX1_init : ByteArray := prog_3_method_1_code
def yX1_init : MethodName := ⟨RX1, "<init>", "()V"⟩
abbrev cX1_become : ByteArray := prog_3_method_2_code
def yX1_become : MethodName := ⟨RX1, "become", "(JJ)V"⟩
abbrev cX1_greatestShared : ByteArray := prog_3_method_3_code
def yX1_greatestShared : MethodName := ⟨RX1, "greatestShared", "(JJ)J"⟩
abbrev cX1_choose : ByteArray := prog_3_method_4_code
def yX1_choose : MethodName := ⟨RX1, "choose", "(II)J"⟩
def RX2 : String := "HailVotes$Reader"
def TX2 : u_T := fun k => match k with
  | 0 => ("HailVotes$Reader", "length", "I", false)
  | 1 => ("HailVotes$Reader", "bytes", "[I", true)
  | 2 => ("HailVotes$Reader", "numbers", "[I", true)
  | 3 => ("HailVotes$Reader", "token", "I", false)
  | 4 => ("HailVotes$Reader", "tokenEnd", "I", false)
  | _ => ("HailVotes$Reader", "sort", "I", false)
def tyX2 : Nat → FieldType := fun k => match k with
  | 0 => .int
  | 1 => .array .int
  | 2 => .array .int
  | 3 => .int
  | 4 => .int
  | _ => .int
abbrev wsX20 : List Cond := u_ws RX2 TX2 6
theorem nmX2 : ∀ a, a < 6 → ∀ b, b < 6 → a ≠ b → (TX2 a).2.1 ≠ (TX2 b).2.1 := by decide +kernel
theorem tyX2_ok : ∀ k, k < 6 → parseFieldDescriptor (TX2 k).2.2.1 = some (tyX2 k) := by decide +kernel
abbrev cX2_init : ByteArray := prog_4_method_1_code
def yX2_init : MethodName := ⟨RX2, "<init>", "()V"⟩
abbrev cX2_put : ByteArray := prog_4_method_2_code
def yX2_put : MethodName := ⟨RX2, "put", "(I)V"⟩
abbrev cX2_readInto : ByteArray := prog_4_method_3_code
def yX2_readInto : MethodName := ⟨RX2, "readInto", "(LHailVotes$Canton;)I"⟩
abbrev cX2_readItem : ByteArray := prog_4_method_4_code
def yX2_readItem : MethodName := ⟨RX2, "readItem", "(LHailVotes$Canton;)Z"⟩
abbrev cX2_readRoof : ByteArray := prog_4_method_5_code
def yX2_readRoof : MethodName := ⟨RX2, "readRoof", "(LHailVotes$Canton;)Z"⟩
abbrev cX2_readStorm : ByteArray := prog_4_method_6_code
def yX2_readStorm : MethodName := ⟨RX2, "readStorm", "(LHailVotes$Canton;)Z"⟩
abbrev cX2_readCannon : ByteArray := prog_4_method_7_code
def yX2_readCannon : MethodName := ⟨RX2, "readCannon", "(LHailVotes$Canton;)Z"⟩
abbrev cX2_readNumber : ByteArray := prog_4_method_8_code
def yX2_readNumber : MethodName := ⟨RX2, "readNumber", "(III)Z"⟩
abbrev cX2_readStop : ByteArray := prog_4_method_9_code
def yX2_readStop : MethodName := ⟨RX2, "readStop", "()Z"⟩
abbrev cX2_isWord : ByteArray := prog_4_method_10_code
def yX2_isWord : MethodName := ⟨RX2, "isWord", "(Ljava/lang/String;)Z"⟩
abbrev cX2_nextToken : ByteArray := prog_4_method_11_code
def yX2_nextToken : MethodName := ⟨RX2, "nextToken", "()V"⟩
abbrev cX2_endOfRun : ByteArray := prog_4_method_12_code
def yX2_endOfRun : MethodName := ⟨RX2, "endOfRun", "(III)I"⟩
def RX3 : String := "HailVotes$Story"
def TX3 : u_T := fun k => match k with
  | 0 => ("HailVotes$Story", "now", "LHailVotes$Canton;", true)
  | 1 => ("HailVotes$Story", "undoable", "I", false)
  | 2 => ("HailVotes$Story", "isKept", "Z", false)
  | _ => ("HailVotes$Story", "past", "[LHailVotes$Canton;", true)
def tyX3 : Nat → FieldType := fun k => match k with
  | 0 => .object "HailVotes$Canton"
  | 1 => .int
  | 2 => .boolean
  | _ => .array (.object "HailVotes$Canton")
abbrev wsX30 : List Cond := u_ws RX3 TX3 4
theorem nmX3 : ∀ a, a < 4 → ∀ b, b < 4 → a ≠ b → (TX3 a).2.1 ≠ (TX3 b).2.1 := by decide +kernel
theorem tyX3_ok : ∀ k, k < 4 → parseFieldDescriptor (TX3 k).2.2.1 = some (tyX3 k) := by decide +kernel
abbrev cX3_init : ByteArray := prog_5_method_1_code
def yX3_init : MethodName := ⟨RX3, "<init>", "()V"⟩
abbrev cX3_remember : ByteArray := prog_5_method_2_code
def yX3_remember : MethodName := ⟨RX3, "remember", "()V"⟩
abbrev cX3_forgetOldest : ByteArray := prog_5_method_3_code
def yX3_forgetOldest : MethodName := ⟨RX3, "forgetOldest", "()V"⟩
abbrev cX3_goBack : ByteArray := prog_5_method_4_code
def yX3_goBack : MethodName := ⟨RX3, "goBack", "()Z"⟩
abbrev cX3_become : ByteArray := prog_5_method_5_code
def yX3_become : MethodName := ⟨RX3, "become", "(LHailVotes$Story;)V"⟩
def RX4 : String := "HailVotes"
def TX4 : u_T := fun k => match k with
  | 0 => ("HailVotes", "story", "LHailVotes$Story;", true)
  | 1 => ("HailVotes", "firstImage", "LHailVotes$Story;", true)
  | 2 => ("HailVotes", "secondImage", "LHailVotes$Story;", true)
  | 3 => ("HailVotes", "text", "LHailVotes$Reader;", true)
  | 4 => ("HailVotes", "fraction", "LHailVotes$Fraction;", true)
  | 5 => ("HailVotes", "trial", "LHailVotes$Canton;", true)
  | 6 => ("HailVotes", "bads", "I", false)
  | 7 => ("HailVotes", "noes", "I", false)
  | _ => ("HailVotes", "fulls", "I", false)
def tyX4 : Nat → FieldType := fun k => match k with
  | 0 => .object "HailVotes$Story"
  | 1 => .object "HailVotes$Story"
  | 2 => .object "HailVotes$Story"
  | 3 => .object "HailVotes$Reader"
  | 4 => .object "HailVotes$Fraction"
  | 5 => .object "HailVotes$Canton"
  | 6 => .int
  | 7 => .int
  | _ => .int
abbrev wsX40 : List Cond := u_ws RX4 TX4 9
theorem nmX4 : ∀ a, a < 9 → ∀ b, b < 9 → a ≠ b → (TX4 a).2.1 ≠ (TX4 b).2.1 := by decide +kernel
theorem tyX4_ok : ∀ k, k < 9 → parseFieldDescriptor (TX4 k).2.2.1 = some (tyX4 k) := by decide +kernel
abbrev cX4_init : ByteArray := prog_1_method_1_code
def yX4_init : MethodName := ⟨RX4, "<init>", "()V"⟩
abbrev cX4_roof : ByteArray := prog_1_method_2_code
def yX4_roof : MethodName := ⟨RX4, "roof", "(IIIIII)I"⟩
abbrev cX4_storm : ByteArray := prog_1_method_3_code
def yX4_storm : MethodName := ⟨RX4, "storm", "(IIIII)I"⟩
abbrev cX4_cannon : ByteArray := prog_1_method_4_code
def yX4_cannon : MethodName := ⟨RX4, "cannon", "(IZ)I"⟩
abbrev cX4_tiles : ByteArray := prog_1_method_5_code
def yX4_tiles : MethodName := ⟨RX4, "tiles", "(III)I"⟩
abbrev cX4_type : ByteArray := prog_1_method_6_code
def yX4_type : MethodName := ⟨RX4, "type", "(JI)I"⟩
abbrev cX4_clear : ByteArray := prog_1_method_7_code
def yX4_clear : MethodName := ⟨RX4, "clear", "()I"⟩
abbrev cX4_read : ByteArray := prog_1_method_8_code
def yX4_read : MethodName := ⟨RX4, "read", "()I"⟩
abbrev cX4_force : ByteArray := prog_1_method_9_code
def yX4_force : MethodName := ⟨RX4, "force", "(III)I"⟩
abbrev cX4_breaks : ByteArray := prog_1_method_10_code
def yX4_breaks : MethodName := ⟨RX4, "breaks", "(III)I"⟩
abbrev cX4_wins : ByteArray := prog_1_method_11_code
def yX4_wins : MethodName := ⟨RX4, "wins", "(I)I"⟩
abbrev cX4_odds : ByteArray := prog_1_method_12_code
def yX4_odds : MethodName := ⟨RX4, "odds", "(I)I"⟩
abbrev cX4_paint : ByteArray := prog_1_method_13_code
def yX4_paint : MethodName := ⟨RX4, "paint", "(II)I"⟩
abbrev cX4_brush : ByteArray := prog_1_method_14_code
def yX4_brush : MethodName := ⟨RX4, "brush", "(IIII)I"⟩
abbrev cX4_against : ByteArray := prog_1_method_15_code
def yX4_against : MethodName := ⟨RX4, "against", "()I"⟩
abbrev cX4_decides : ByteArray := prog_1_method_16_code
def yX4_decides : MethodName := ⟨RX4, "decides", "(I)I"⟩
abbrev cX4_power : ByteArray := prog_1_method_17_code
def yX4_power : MethodName := ⟨RX4, "power", "(I)I"⟩
abbrev cX4_shield : ByteArray := prog_1_method_18_code
def yX4_shield : MethodName := ⟨RX4, "shield", "(I)I"⟩
abbrev cX4_shards : ByteArray := prog_1_method_19_code
def yX4_shards : MethodName := ⟨RX4, "shards", "(III)I"⟩
abbrev cX4_which : ByteArray := prog_1_method_20_code
def yX4_which : MethodName := ⟨RX4, "which", "(I)I"⟩
abbrev cX4_recount : ByteArray := prog_1_method_21_code
def yX4_recount : MethodName := ⟨RX4, "recount", "(II)I"⟩
abbrev cX4_year : ByteArray := prog_1_method_22_code
def yX4_year : MethodName := ⟨RX4, "year", "(I)I"⟩
abbrev cX4_undo : ByteArray := prog_1_method_23_code
def yX4_undo : MethodName := ⟨RX4, "undo", "()I"⟩
abbrev cX4_drawn : ByteArray := prog_1_method_24_code
def yX4_drawn : MethodName := ⟨RX4, "drawn", "(II)I"⟩
abbrev cX4_part : ByteArray := prog_1_method_25_code
def yX4_part : MethodName := ⟨RX4, "part", "(I)J"⟩
abbrev cX4_image : ByteArray := prog_1_method_26_code
def yX4_image : MethodName := ⟨RX4, "image", "(I)I"⟩
abbrev cX4_from : ByteArray := prog_1_method_27_code
def yX4_from : MethodName := ⟨RX4, "from", "(I)I"⟩
abbrev cX4_status : ByteArray := prog_1_method_28_code
def yX4_status : MethodName := ⟨RX4, "status", "(I)I"⟩
abbrev cX4_count : ByteArray := prog_1_method_29_code
def yX4_count : MethodName := ⟨RX4, "count", "(I)I"⟩
abbrev cX4_digest : ByteArray := prog_1_method_30_code
def yX4_digest : MethodName := ⟨RX4, "digest", "()J"⟩
abbrev cX4_refuse : ByteArray := prog_1_method_31_code
def yX4_refuse : MethodName := ⟨RX4, "refuse", "(I)I"⟩
abbrev cX4_isRoof : ByteArray := prog_1_method_32_code
def yX4_isRoof : MethodName := ⟨RX4, "isRoof", "(I)Z"⟩
abbrev cX4_isStorm : ByteArray := prog_1_method_33_code
def yX4_isStorm : MethodName := ⟨RX4, "isStorm", "(I)Z"⟩
abbrev cX4_isPaint : ByteArray := prog_1_method_34_code
def yX4_isPaint : MethodName := ⟨RX4, "isPaint", "(I)Z"⟩
abbrev cX4_areTiles : ByteArray := prog_1_method_35_code
def yX4_areTiles : MethodName := ⟨RX4, "areTiles", "(II)Z"⟩
abbrev cX4_within : ByteArray := prog_1_method_36_code
def yX4_within : MethodName := ⟨RX4, "within", "(III)Z"⟩
def RX5 : String := "HailVotesModel"
def TX5 : u_T := fun k => match k with
  | 0 => ("HailVotesModel", "now", "[I", true)
  | 1 => ("HailVotesModel", "kept", "[I", true)
  | 2 => ("HailVotesModel", "isKept", "[Z", true)
  | 3 => ("HailVotesModel", "refused", "[I", true)
  | 4 => ("HailVotesModel", "above", "J", false)
  | 5 => ("HailVotesModel", "below", "J", false)
  | 6 => ("HailVotesModel", "hand", "[I", true)
  | 7 => ("HailVotesModel", "ages", "[I", true)
  | 8 => ("HailVotesModel", "painted", "[I", true)
  | 9 => ("HailVotesModel", "bestPainted", "[I", true)
  | 10 => ("HailVotesModel", "bestChance", "I", false)
  | 11 => ("HailVotesModel", "decided", "[Z", true)
  | 12 => ("HailVotesModel", "bytes", "[I", true)
  | 13 => ("HailVotesModel", "bytesLong", "I", false)
  | 14 => ("HailVotesModel", "tokenAt", "I", false)
  | 15 => ("HailVotesModel", "tokenLong", "I", false)
  | 16 => ("HailVotesModel", "token", "I", false)
  | 17 => ("HailVotesModel", "value", "I", false)
  | 18 => ("HailVotesModel", "next", "[I", true)
  | _ => ("HailVotesModel", "values", "[I", true)
def tyX5 : Nat → FieldType := fun k => match k with
  | 0 => .array .int
  | 1 => .array .int
  | 2 => .array .boolean
  | 3 => .array .int
  | 4 => .long
  | 5 => .long
  | 6 => .array .int
  | 7 => .array .int
  | 8 => .array .int
  | 9 => .array .int
  | 10 => .int
  | 11 => .array .boolean
  | 12 => .array .int
  | 13 => .int
  | 14 => .int
  | 15 => .int
  | 16 => .int
  | 17 => .int
  | 18 => .array .int
  | _ => .array .int
abbrev wsX50 : List Cond := u_ws RX5 TX5 20
theorem nmX5 : ∀ a, a < 20 → ∀ b, b < 20 → a ≠ b → (TX5 a).2.1 ≠ (TX5 b).2.1 := by decide +kernel
theorem tyX5_ok : ∀ k, k < 20 → parseFieldDescriptor (TX5 k).2.2.1 = some (tyX5 k) := by decide +kernel
abbrev cX5_init : ByteArray := prog_7_method_1_code
def yX5_init : MethodName := ⟨RX5, "<init>", "()V"⟩
abbrev cX5_in : ByteArray := prog_7_method_3_code
def yX5_in : MethodName := ⟨RX5, "in", "(JJJ)Z"⟩
abbrev cX5_bad : ByteArray := prog_7_method_4_code
def yX5_bad : MethodName := ⟨RX5, "bad", "(I)I"⟩
abbrev cX5_no : ByteArray := prog_7_method_5_code
def yX5_no : MethodName := ⟨RX5, "no", "(I)I"⟩
abbrev cX5_full : ByteArray := prog_7_method_6_code
def yX5_full : MethodName := ⟨RX5, "full", "()I"⟩
abbrev cX5_tell : ByteArray := prog_7_method_7_code
def yX5_tell : MethodName := ⟨RX5, "tell", "(JJ)I"⟩
abbrev cX5_roofs : ByteArray := prog_7_method_8_code
def yX5_roofs : MethodName := ⟨RX5, "roofs", "()I"⟩
abbrev cX5_storms : ByteArray := prog_7_method_9_code
def yX5_storms : MethodName := ⟨RX5, "storms", "()I"⟩
abbrev cX5_isRoof : ByteArray := prog_7_method_10_code
def yX5_isRoof : MethodName := ⟨RX5, "isRoof", "(I)Z"⟩
abbrev cX5_isStorm : ByteArray := prog_7_method_11_code
def yX5_isStorm : MethodName := ⟨RX5, "isStorm", "(I)Z"⟩
abbrev cX5_of : ByteArray := prog_7_method_12_code
def yX5_of : MethodName := ⟨RX5, "of", "(II)I"⟩
abbrev cX5_isRoofTold : ByteArray := prog_7_method_13_code
def yX5_isRoofTold : MethodName := ⟨RX5, "isRoofTold", "(IIIIII)Z"⟩
abbrev cX5_layRoof : ByteArray := prog_7_method_14_code
def yX5_layRoof : MethodName := ⟨RX5, "layRoof", "([IIIIIIII)V"⟩
abbrev cX5_roof : ByteArray := prog_7_method_15_code
def yX5_roof : MethodName := ⟨RX5, "roof", "(IIIIII)I"⟩
abbrev cX5_layStorm : ByteArray := prog_7_method_16_code
def yX5_layStorm : MethodName := ⟨RX5, "layStorm", "([IIIIIII)V"⟩
abbrev cX5_storm : ByteArray := prog_7_method_17_code
def yX5_storm : MethodName := ⟨RX5, "storm", "(IIIII)I"⟩
abbrev cX5_cannon : ByteArray := prog_7_method_18_code
def yX5_cannon : MethodName := ⟨RX5, "cannon", "(IZ)I"⟩
abbrev cX5_tiles : ByteArray := prog_7_method_19_code
def yX5_tiles : MethodName := ⟨RX5, "tiles", "(III)I"⟩
abbrev cX5_takeNow : ByteArray := prog_7_method_20_code
def yX5_takeNow : MethodName := ⟨RX5, "takeNow", "()V"⟩
abbrev cX5_cannonAt : ByteArray := prog_7_method_21_code
def yX5_cannonAt : MethodName := ⟨RX5, "cannonAt", "(I)I"⟩
abbrev cX5_forceOf : ByteArray := prog_7_method_22_code
def yX5_forceOf : MethodName := ⟨RX5, "forceOf", "(III)I"⟩
abbrev cX5_force : ByteArray := prog_7_method_23_code
def yX5_force : MethodName := ⟨RX5, "force", "(III)I"⟩
abbrev cX5_hits : ByteArray := prog_7_method_24_code
def yX5_hits : MethodName := ⟨RX5, "hits", "(II)I"⟩
abbrev cX5_breaksOf : ByteArray := prog_7_method_25_code
def yX5_breaksOf : MethodName := ⟨RX5, "breaksOf", "(IIII)I"⟩
abbrev cX5_breaksAll : ByteArray := prog_7_method_26_code
def yX5_breaksAll : MethodName := ⟨RX5, "breaksAll", "(III)I"⟩
abbrev cX5_brokenBy : ByteArray := prog_7_method_27_code
def yX5_brokenBy : MethodName := ⟨RX5, "brokenBy", "(II)I"⟩
abbrev cX5_breaks : ByteArray := prog_7_method_28_code
def yX5_breaks : MethodName := ⟨RX5, "breaks", "(III)I"⟩
abbrev cX5_winner : ByteArray := prog_7_method_29_code
def yX5_winner : MethodName := ⟨RX5, "winner", "(I)I"⟩
abbrev cX5_wins : ByteArray := prog_7_method_30_code
def yX5_wins : MethodName := ⟨RX5, "wins", "(I)I"⟩
abbrev cX5_allChances : ByteArray := prog_7_method_31_code
def yX5_allChances : MethodName := ⟨RX5, "allChances", "()I"⟩
abbrev cX5_chanceOf : ByteArray := prog_7_method_32_code
def yX5_chanceOf : MethodName := ⟨RX5, "chanceOf", "(I)I"⟩
abbrev cX5_odds : ByteArray := prog_7_method_33_code
def yX5_odds : MethodName := ⟨RX5, "odds", "(I)I"⟩
abbrev cX5_brushOn : ByteArray := prog_7_method_34_code
def yX5_brushOn : MethodName := ⟨RX5, "brushOn", "(III)V"⟩
abbrev cX5_findPaint : ByteArray := prog_7_method_35_code
def yX5_findPaint : MethodName := ⟨RX5, "findPaint", "(II)V"⟩
abbrev cX5_paint : ByteArray := prog_7_method_36_code
def yX5_paint : MethodName := ⟨RX5, "paint", "(II)I"⟩
abbrev cX5_brush : ByteArray := prog_7_method_37_code
def yX5_brush : MethodName := ⟨RX5, "brush", "(IIII)I"⟩
abbrev cX5_leastOver : ByteArray := prog_7_method_38_code
def yX5_leastOver : MethodName := ⟨RX5, "leastOver", "()I"⟩
abbrev cX5_against : ByteArray := prog_7_method_39_code
def yX5_against : MethodName := ⟨RX5, "against", "()I"⟩
abbrev cX5_findDecided : ByteArray := prog_7_method_40_code
def yX5_findDecided : MethodName := ⟨RX5, "findDecided", "(I)I"⟩
abbrev cX5_decides : ByteArray := prog_7_method_41_code
def yX5_decides : MethodName := ⟨RX5, "decides", "(I)I"⟩
abbrev cX5_power : ByteArray := prog_7_method_42_code
def yX5_power : MethodName := ⟨RX5, "power", "(I)I"⟩
abbrev cX5_shield : ByteArray := prog_7_method_43_code
def yX5_shield : MethodName := ⟨RX5, "shield", "(I)I"⟩
abbrev cX5_shards : ByteArray := prog_7_method_44_code
def yX5_shards : MethodName := ⟨RX5, "shards", "(III)I"⟩
abbrev cX5_isTold : ByteArray := prog_7_method_45_code
def yX5_isTold : MethodName := ⟨RX5, "isTold", "(I)Z"⟩
abbrev cX5_breaksSo : ByteArray := prog_7_method_46_code
def yX5_breaksSo : MethodName := ⟨RX5, "breaksSo", "(II)Z"⟩
abbrev cX5_which : ByteArray := prog_7_method_47_code
def yX5_which : MethodName := ⟨RX5, "which", "(I)I"⟩
abbrev cX5_choose : ByteArray := prog_7_method_48_code
def yX5_choose : MethodName := ⟨RX5, "choose", "(II)J"⟩
abbrev cX5_recount : ByteArray := prog_7_method_49_code
def yX5_recount : MethodName := ⟨RX5, "recount", "(II)I"⟩
abbrev cX5_goYear : ByteArray := prog_7_method_50_code
def yX5_goYear : MethodName := ⟨RX5, "goYear", "(I)I"⟩
abbrev cX5_keepYear : ByteArray := prog_7_method_51_code
def yX5_keepYear : MethodName := ⟨RX5, "keepYear", "()V"⟩
abbrev cX5_year : ByteArray := prog_7_method_52_code
def yX5_year : MethodName := ⟨RX5, "year", "(I)I"⟩
abbrev cX5_undo : ByteArray := prog_7_method_53_code
def yX5_undo : MethodName := ⟨RX5, "undo", "()I"⟩
abbrev cX5_drawn : ByteArray := prog_7_method_54_code
def yX5_drawn : MethodName := ⟨RX5, "drawn", "(II)I"⟩
abbrev cX5_type : ByteArray := prog_7_method_55_code
def yX5_type : MethodName := ⟨RX5, "type", "(JI)I"⟩
abbrev cX5_clear : ByteArray := prog_7_method_56_code
def yX5_clear : MethodName := ⟨RX5, "clear", "()I"⟩
abbrev cX5_isSmall : ByteArray := prog_7_method_57_code
def yX5_isSmall : MethodName := ⟨RX5, "isSmall", "(I)Z"⟩
abbrev cX5_isFigure : ByteArray := prog_7_method_58_code
def yX5_isFigure : MethodName := ⟨RX5, "isFigure", "(I)Z"⟩
abbrev cX5_look : ByteArray := prog_7_method_59_code
def yX5_look : MethodName := ⟨RX5, "look", "(I)V"⟩
abbrev cX5_goOn : ByteArray := prog_7_method_60_code
def yX5_goOn : MethodName := ⟨RX5, "goOn", "()V"⟩
abbrev cX5_isWord : ByteArray := prog_7_method_61_code
def yX5_isWord : MethodName := ⟨RX5, "isWord", "(IIIIII)Z"⟩
abbrev cX5_takes : ByteArray := prog_7_method_62_code
def yX5_takes : MethodName := ⟨RX5, "takes", "(III)Z"⟩
abbrev cX5_readsRoof : ByteArray := prog_7_method_63_code
def yX5_readsRoof : MethodName := ⟨RX5, "readsRoof", "()Z"⟩
abbrev cX5_readsStorm : ByteArray := prog_7_method_64_code
def yX5_readsStorm : MethodName := ⟨RX5, "readsStorm", "()Z"⟩
abbrev cX5_readsCannon : ByteArray := prog_7_method_65_code
def yX5_readsCannon : MethodName := ⟨RX5, "readsCannon", "()Z"⟩
abbrev cX5_readsItem : ByteArray := prog_7_method_66_code
def yX5_readsItem : MethodName := ⟨RX5, "readsItem", "()Z"⟩
abbrev cX5_read : ByteArray := prog_7_method_67_code
def yX5_read : MethodName := ⟨RX5, "read", "()I"⟩
abbrev cX5_part : ByteArray := prog_7_method_68_code
def yX5_part : MethodName := ⟨RX5, "part", "(I)J"⟩
abbrev cX5_image : ByteArray := prog_7_method_69_code
def yX5_image : MethodName := ⟨RX5, "image", "(I)I"⟩
abbrev cX5_from : ByteArray := prog_7_method_70_code
def yX5_from : MethodName := ⟨RX5, "from", "(I)I"⟩
abbrev cX5_status : ByteArray := prog_7_method_71_code
def yX5_status : MethodName := ⟨RX5, "status", "(I)I"⟩
abbrev cX5_cannons : ByteArray := prog_7_method_72_code
def yX5_cannons : MethodName := ⟨RX5, "cannons", "()I"⟩
abbrev cX5_counted : ByteArray := prog_7_method_73_code
def yX5_counted : MethodName := ⟨RX5, "counted", "(I)I"⟩
abbrev cX5_count : ByteArray := prog_7_method_74_code
def yX5_count : MethodName := ⟨RX5, "count", "(I)I"⟩
abbrev cX5_sums : ByteArray := prog_7_method_75_code
def yX5_sums : MethodName := ⟨RX5, "sums", "(JII)J"⟩
abbrev cX5_digest : ByteArray := prog_7_method_76_code
def yX5_digest : MethodName := ⟨RX5, "digest", "()J"⟩
def RJ9 : String := "java/lang/Math"
def TJ9 : u_T := fun k => match k with
  | _ => ("", "", "", false)
def tyJ9 : Nat → FieldType := fun k => match k with
  | _ => .int
abbrev wsJ90 : List Cond := u_ws RJ9 TJ9 0
theorem nmJ9 : ∀ a, a < 0 → ∀ b, b < 0 → a ≠ b → (TJ9 a).2.1 ≠ (TJ9 b).2.1 := by decide +kernel
theorem tyJ9_ok : ∀ k, k < 0 → parseFieldDescriptor (TJ9 k).2.2.1 = some (tyJ9 k) := by decide +kernel
abbrev cJ9_abs_067f4 : ByteArray := prog_8_method_61_code
def yJ9_abs_067f4 : MethodName := ⟨RJ9, "abs", "(J)J"⟩
abbrev cJ9_max_7cf53 : ByteArray := prog_8_method_65_code
def yJ9_max_7cf53 : MethodName := ⟨RJ9, "max", "(II)I"⟩
abbrev cJ9_min_7cf53 : ByteArray := prog_8_method_69_code
def yJ9_min_7cf53 : MethodName := ⟨RJ9, "min", "(II)I"⟩
def RJ0 : String := "java/lang/String"
def TJ0 : u_T := fun k => match k with
  | _ => ("", "", "", false)
def tyJ0 : Nat → FieldType := fun k => match k with
  | _ => .int
abbrev wsJ00 : List Cond := u_ws RJ0 TJ0 0
theorem nmJ0 : ∀ a, a < 0 → ∀ b, b < 0 → a ≠ b → (TJ0 a).2.1 ≠ (TJ0 b).2.1 := by decide +kernel
theorem tyJ0_ok : ∀ k, k < 0 → parseFieldDescriptor (TJ0 k).2.2.1 = some (tyJ0 k) := by decide +kernel
abbrev cJ0_length_8abf5 : ByteArray := prog_9_method_54_code
def yJ0_length_8abf5 : MethodName := ⟨RJ0, "length", "()I"⟩
abbrev cJ0_charAt_5068e : ByteArray := prog_9_method_56_code
def yJ0_charAt_5068e : MethodName := ⟨RJ0, "charAt", "(I)C"⟩
abbrev cJ0_coder_7d493 : ByteArray := prog_9_method_152_code
def yJ0_coder_7d493 : MethodName := ⟨RJ0, "coder", "()B"⟩
abbrev cJ0_isLatin1_aae02 : ByteArray := prog_9_method_154_code
def yJ0_isLatin1_aae02 : MethodName := ⟨RJ0, "isLatin1", "()Z"⟩
abbrev cJ0_checkIndex_df160 : ByteArray := prog_9_method_155_code
def yJ0_checkIndex_df160 : MethodName := ⟨RJ0, "checkIndex", "(II)V"⟩
def RJ1 : String := "java/lang/StringLatin1"
def TJ1 : u_T := fun k => match k with
  | _ => ("", "", "", false)
def tyJ1 : Nat → FieldType := fun k => match k with
  | _ => .int
abbrev wsJ10 : List Cond := u_ws RJ1 TJ1 0
theorem nmJ1 : ∀ a, a < 0 → ∀ b, b < 0 → a ≠ b → (TJ1 a).2.1 ≠ (TJ1 b).2.1 := by decide +kernel
theorem tyJ1_ok : ∀ k, k < 0 → parseFieldDescriptor (TJ1 k).2.2.1 = some (tyJ1 k) := by decide +kernel
abbrev cJ1_charAt_3b067 : ByteArray := prog_10_method_2_code
def yJ1_charAt_3b067 : MethodName := ⟨RJ1, "charAt", "([BI)C"⟩
def RJ2 : String := "java/lang/StringUTF16"
def TJ2 : u_T := fun k => match k with
  | _ => ("", "", "", false)
def tyJ2 : Nat → FieldType := fun k => match k with
  | _ => .int
abbrev wsJ20 : List Cond := u_ws RJ2 TJ2 0
theorem nmJ2 : ∀ a, a < 0 → ∀ b, b < 0 → a ≠ b → (TJ2 a).2.1 ≠ (TJ2 b).2.1 := by decide +kernel
theorem tyJ2_ok : ∀ k, k < 0 → parseFieldDescriptor (TJ2 k).2.2.1 = some (tyJ2 k) := by decide +kernel
abbrev cJ2_getChar_3b067 : ByteArray := prog_11_method_5_code
def yJ2_getChar_3b067 : MethodName := ⟨RJ2, "getChar", "([BI)C"⟩
abbrev cJ2_length_9d52b : ByteArray := prog_11_method_6_code
def yJ2_length_9d52b : MethodName := ⟨RJ2, "length", "([B)I"⟩
abbrev cJ2_charAt_3b067 : ByteArray := prog_11_method_83_code
def yJ2_charAt_3b067 : MethodName := ⟨RJ2, "charAt", "([BI)C"⟩
abbrev cJ2_checkIndex_2214a : ByteArray := prog_11_method_91_code
def yJ2_checkIndex_2214a : MethodName := ⟨RJ2, "checkIndex", "(I[B)V"⟩
def RJ10 : String := "java/lang/System"
def TJ10 : u_T := fun k => match k with
  | _ => ("", "", "", false)
def tyJ10 : Nat → FieldType := fun k => match k with
  | _ => .int
abbrev wsJ100 : List Cond := u_ws RJ10 TJ10 0
theorem nmJ10 : ∀ a, a < 0 → ∀ b, b < 0 → a ≠ b → (TJ10 a).2.1 ≠ (TJ10 b).2.1 := by decide +kernel
theorem tyJ10_ok : ∀ k, k < 0 → parseFieldDescriptor (TJ10 k).2.2.1 = some (tyJ10 k) := by decide +kernel
def RJ3 : String := "jdk/internal/util/Preconditions"
def TJ3 : u_T := fun k => match k with
  | _ => ("", "", "", false)
def tyJ3 : Nat → FieldType := fun k => match k with
  | _ => .int
abbrev wsJ30 : List Cond := u_ws RJ3 TJ3 0
theorem nmJ3 : ∀ a, a < 0 → ∀ b, b < 0 → a ≠ b → (TJ3 a).2.1 ≠ (TJ3 b).2.1 := by decide +kernel
theorem tyJ3_ok : ∀ k, k < 0 → parseFieldDescriptor (TJ3 k).2.2.1 = some (tyJ3 k) := by decide +kernel
abbrev cJ3_checkIndex_8e157 : ByteArray := prog_13_method_11_code
def yJ3_checkIndex_8e157 : MethodName := ⟨RJ3, "checkIndex", "(IILjava/util/function/BiFunction;)I"⟩
def RL : String := "HailVotesLaw"
abbrev cL_law : ByteArray := code
def yL_law : MethodName := ⟨RL, "law", "([I)Z"⟩
abbrev vwCl : List vw_C := [(RX0, TX0, 14), (RX1, TX1, 2), (RX2, TX2, 6), (RX3, TX3, 4), (RX4, TX4, 9), (RX5, TX5, 20)]
theorem inX0 : ∀ w ∈ wsX00, w ∈ lw_tbl := by decide +kernel
theorem inX1 : ∀ w ∈ wsX10, w ∈ lw_tbl := by decide +kernel
theorem inX2 : ∀ w ∈ wsX20, w ∈ lw_tbl := by decide +kernel
theorem inX3 : ∀ w ∈ wsX30, w ∈ lw_tbl := by decide +kernel
theorem inX4 : ∀ w ∈ wsX40, w ∈ lw_tbl := by decide +kernel
theorem inX5 : ∀ w ∈ wsX50, w ∈ lw_tbl := by decide +kernel
end
section
theorem dX0_init_0 : decode cX0_init 0 = .ok (.aload_n 0, 1) := by decide +kernel
theorem dX0_init_1 : decode cX0_init 1 = .ok (.invokespecial 3, 3) := by decide +kernel
theorem dX0_init_4 : decode cX0_init 4 = .ok (.aload_n 0, 1) := by decide +kernel
theorem dX0_init_5 : decode cX0_init 5 = .ok (.bipush 7, 2) := by decide +kernel
theorem dX0_init_7 : decode cX0_init 7 = .ok (.newarray .int, 2) := by decide +kernel
theorem dX0_init_9 : decode cX0_init 9 = .ok (.putfield 9, 3) := by decide +kernel
theorem dX0_init_12 : decode cX0_init 12 = .ok (.aload_n 0, 1) := by decide +kernel
theorem dX0_init_13 : decode cX0_init 13 = .ok (.bipush 7, 2) := by decide +kernel
theorem dX0_init_15 : decode cX0_init 15 = .ok (.newarray .int, 2) := by decide +kernel
theorem dX0_init_17 : decode cX0_init 17 = .ok (.putfield 15, 3) := by decide +kernel
theorem dX0_init_20 : decode cX0_init 20 = .ok (.aload_n 0, 1) := by decide +kernel
theorem dX0_init_21 : decode cX0_init 21 = .ok (.bipush 28, 2) := by decide +kernel
theorem dX0_init_23 : decode cX0_init 23 = .ok (.newarray .int, 2) := by decide +kernel
theorem dX0_init_25 : decode cX0_init 25 = .ok (.putfield 18, 3) := by decide +kernel
theorem dX0_init_28 : decode cX0_init 28 = .ok (.aload_n 0, 1) := by decide +kernel
theorem dX0_init_29 : decode cX0_init 29 = .ok (.bipush 7, 2) := by decide +kernel
theorem dX0_init_31 : decode cX0_init 31 = .ok (.newarray .int, 2) := by decide +kernel
theorem dX0_init_33 : decode cX0_init 33 = .ok (.putfield 21, 3) := by decide +kernel
theorem dX0_init_36 : decode cX0_init 36 = .ok (.aload_n 0, 1) := by decide +kernel
theorem dX0_init_37 : decode cX0_init 37 = .ok (.bipush 7, 2) := by decide +kernel
theorem dX0_init_39 : decode cX0_init 39 = .ok (.newarray .int, 2) := by decide +kernel
theorem dX0_init_41 : decode cX0_init 41 = .ok (.putfield 24, 3) := by decide +kernel
theorem dX0_init_44 : decode cX0_init 44 = .ok (.aload_n 0, 1) := by decide +kernel
theorem dX0_init_45 : decode cX0_init 45 = .ok (.bipush 6, 2) := by decide +kernel
theorem dX0_init_47 : decode cX0_init 47 = .ok (.newarray .int, 2) := by decide +kernel
theorem dX0_init_49 : decode cX0_init 49 = .ok (.putfield 27, 3) := by decide +kernel
theorem dX0_init_52 : decode cX0_init 52 = .ok (.aload_n 0, 1) := by decide +kernel
theorem dX0_init_53 : decode cX0_init 53 = .ok (.bipush 6, 2) := by decide +kernel
theorem dX0_init_55 : decode cX0_init 55 = .ok (.newarray .int, 2) := by decide +kernel
theorem dX0_init_57 : decode cX0_init 57 = .ok (.putfield 30, 3) := by decide +kernel
theorem dX0_init_60 : decode cX0_init 60 = .ok (.aload_n 0, 1) := by decide +kernel
theorem dX0_init_61 : decode cX0_init 61 = .ok (.bipush 6, 2) := by decide +kernel
theorem dX0_init_63 : decode cX0_init 63 = .ok (.newarray .int, 2) := by decide +kernel
theorem dX0_init_65 : decode cX0_init 65 = .ok (.putfield 33, 3) := by decide +kernel
theorem dX0_init_68 : decode cX0_init 68 = .ok (.aload_n 0, 1) := by decide +kernel
theorem dX0_init_69 : decode cX0_init 69 = .ok (.bipush 6, 2) := by decide +kernel
theorem dX0_init_71 : decode cX0_init 71 = .ok (.newarray .int, 2) := by decide +kernel
theorem dX0_init_73 : decode cX0_init 73 = .ok (.putfield 36, 3) := by decide +kernel
theorem dX0_init_76 : decode cX0_init 76 = .ok (.aload_n 0, 1) := by decide +kernel
theorem dX0_init_77 : decode cX0_init 77 = .ok (.bipush 6, 2) := by decide +kernel
theorem dX0_init_79 : decode cX0_init 79 = .ok (.newarray .int, 2) := by decide +kernel
theorem dX0_init_81 : decode cX0_init 81 = .ok (.putfield 39, 3) := by decide +kernel
theorem dX0_init_84 : decode cX0_init 84 = .ok (.aload_n 0, 1) := by decide +kernel
theorem dX0_init_85 : decode cX0_init 85 = .ok (.bipush 7, 2) := by decide +kernel
theorem dX0_init_87 : decode cX0_init 87 = .ok (.newarray .int, 2) := by decide +kernel
theorem dX0_init_89 : decode cX0_init 89 = .ok (.putfield 42, 3) := by decide +kernel
theorem dX0_init_92 : decode cX0_init 92 = .ok (.return_, 1) := by decide +kernel
theorem dX0_row_0 : decode cX0_row 0 = .ok (.iconst 4, 1) := by decide +kernel
theorem dX0_row_1 : decode cX0_row 1 = .ok (.iload_n 0, 1) := by decide +kernel
theorem dX0_row_2 : decode cX0_row 2 = .ok (.imul, 1) := by decide +kernel
theorem dX0_row_3 : decode cX0_row 3 = .ok (.iconst 2, 1) := by decide +kernel
theorem dX0_row_4 : decode cX0_row 4 = .ok (.iload_n 1, 1) := by decide +kernel
theorem dX0_row_5 : decode cX0_row 5 = .ok (.imul, 1) := by decide +kernel
theorem dX0_row_6 : decode cX0_row 6 = .ok (.iadd, 1) := by decide +kernel
theorem dX0_row_7 : decode cX0_row 7 = .ok (.iload_n 2, 1) := by decide +kernel
theorem dX0_row_8 : decode cX0_row 8 = .ok (.iadd, 1) := by decide +kernel
theorem dX0_row_9 : decode cX0_row 9 = .ok (.ireturn, 1) := by decide +kernel
theorem dX0_empty_0 : decode cX0_empty 0 = .ok (.aload_n 0, 1) := by decide +kernel
theorem dX0_empty_1 : decode cX0_empty 1 = .ok (.iconst 0, 1) := by decide +kernel
theorem dX0_empty_2 : decode cX0_empty 2 = .ok (.putfield 45, 3) := by decide +kernel
theorem dX0_empty_5 : decode cX0_empty 5 = .ok (.aload_n 0, 1) := by decide +kernel
theorem dX0_empty_6 : decode cX0_empty 6 = .ok (.iconst 0, 1) := by decide +kernel
theorem dX0_empty_7 : decode cX0_empty 7 = .ok (.putfield 49, 3) := by decide +kernel
theorem dX0_empty_10 : decode cX0_empty 10 = .ok (.aload_n 0, 1) := by decide +kernel
theorem dX0_empty_11 : decode cX0_empty 11 = .ok (.iconst 0, 1) := by decide +kernel
theorem dX0_empty_12 : decode cX0_empty 12 = .ok (.putfield 52, 3) := by decide +kernel
theorem dX0_empty_15 : decode cX0_empty 15 = .ok (.iconst 0, 1) := by decide +kernel
theorem dX0_empty_16 : decode cX0_empty 16 = .ok (.istore_n 1, 1) := by decide +kernel
theorem dX0_empty_17 : decode cX0_empty 17 = .ok (.iload_n 1, 1) := by decide +kernel
theorem dX0_empty_18 : decode cX0_empty 18 = .ok (.bipush 7, 2) := by decide +kernel
theorem dX0_empty_20 : decode cX0_empty 20 = .ok (.if_icmp .ge 16, 3) := by decide +kernel
theorem dX0_empty_23 : decode cX0_empty 23 = .ok (.aload_n 0, 1) := by decide +kernel
theorem dX0_empty_24 : decode cX0_empty 24 = .ok (.getfield 42, 3) := by decide +kernel
theorem dX0_empty_27 : decode cX0_empty 27 = .ok (.iload_n 1, 1) := by decide +kernel
theorem dX0_empty_28 : decode cX0_empty 28 = .ok (.iconst 0, 1) := by decide +kernel
theorem dX0_empty_29 : decode cX0_empty 29 = .ok (.iastore, 1) := by decide +kernel
theorem dX0_empty_30 : decode cX0_empty 30 = .ok (.iinc 1 1, 3) := by decide +kernel
theorem dX0_empty_33 : decode cX0_empty 33 = .ok (.goto (-16), 3) := by decide +kernel
theorem dX0_empty_36 : decode cX0_empty 36 = .ok (.return_, 1) := by decide +kernel
theorem dX0_become_0 : decode cX0_become 0 = .ok (.aload_n 0, 1) := by decide +kernel
theorem dX0_become_1 : decode cX0_become 1 = .ok (.aload_n 1, 1) := by decide +kernel
theorem dX0_become_2 : decode cX0_become 2 = .ok (.getfield 45, 3) := by decide +kernel
theorem dX0_become_5 : decode cX0_become 5 = .ok (.putfield 45, 3) := by decide +kernel
theorem dX0_become_8 : decode cX0_become 8 = .ok (.aload_n 0, 1) := by decide +kernel
theorem dX0_become_9 : decode cX0_become 9 = .ok (.aload_n 1, 1) := by decide +kernel
theorem dX0_become_10 : decode cX0_become 10 = .ok (.getfield 49, 3) := by decide +kernel
theorem dX0_become_13 : decode cX0_become 13 = .ok (.putfield 49, 3) := by decide +kernel
theorem dX0_become_16 : decode cX0_become 16 = .ok (.aload_n 0, 1) := by decide +kernel
theorem dX0_become_17 : decode cX0_become 17 = .ok (.aload_n 1, 1) := by decide +kernel
theorem dX0_become_18 : decode cX0_become 18 = .ok (.getfield 52, 3) := by decide +kernel
theorem dX0_become_21 : decode cX0_become 21 = .ok (.putfield 52, 3) := by decide +kernel
theorem dX0_become_24 : decode cX0_become 24 = .ok (.aload_n 1, 1) := by decide +kernel
theorem dX0_become_25 : decode cX0_become 25 = .ok (.getfield 9, 3) := by decide +kernel
theorem dX0_become_28 : decode cX0_become 28 = .ok (.iconst 0, 1) := by decide +kernel
theorem dX0_become_29 : decode cX0_become 29 = .ok (.aload_n 0, 1) := by decide +kernel
theorem dX0_become_30 : decode cX0_become 30 = .ok (.getfield 9, 3) := by decide +kernel
theorem dX0_become_33 : decode cX0_become 33 = .ok (.iconst 0, 1) := by decide +kernel
theorem dX0_become_34 : decode cX0_become 34 = .ok (.bipush 7, 2) := by decide +kernel
theorem dX0_become_36 : decode cX0_become 36 = .ok (.invokestatic 55, 3) := by decide +kernel
theorem dX0_become_39 : decode cX0_become 39 = .ok (.aload_n 1, 1) := by decide +kernel
theorem dX0_become_40 : decode cX0_become 40 = .ok (.getfield 15, 3) := by decide +kernel
theorem dX0_become_43 : decode cX0_become 43 = .ok (.iconst 0, 1) := by decide +kernel
theorem dX0_become_44 : decode cX0_become 44 = .ok (.aload_n 0, 1) := by decide +kernel
theorem dX0_become_45 : decode cX0_become 45 = .ok (.getfield 15, 3) := by decide +kernel
theorem dX0_become_48 : decode cX0_become 48 = .ok (.iconst 0, 1) := by decide +kernel
theorem dX0_become_49 : decode cX0_become 49 = .ok (.bipush 7, 2) := by decide +kernel
theorem dX0_become_51 : decode cX0_become 51 = .ok (.invokestatic 55, 3) := by decide +kernel
theorem dX0_become_54 : decode cX0_become 54 = .ok (.aload_n 1, 1) := by decide +kernel
theorem dX0_become_55 : decode cX0_become 55 = .ok (.getfield 18, 3) := by decide +kernel
theorem dX0_become_58 : decode cX0_become 58 = .ok (.iconst 0, 1) := by decide +kernel
theorem dX0_become_59 : decode cX0_become 59 = .ok (.aload_n 0, 1) := by decide +kernel
theorem dX0_become_60 : decode cX0_become 60 = .ok (.getfield 18, 3) := by decide +kernel
theorem dX0_become_63 : decode cX0_become 63 = .ok (.iconst 0, 1) := by decide +kernel
theorem dX0_become_64 : decode cX0_become 64 = .ok (.bipush 28, 2) := by decide +kernel
theorem dX0_become_66 : decode cX0_become 66 = .ok (.invokestatic 55, 3) := by decide +kernel
theorem dX0_become_69 : decode cX0_become 69 = .ok (.aload_n 1, 1) := by decide +kernel
theorem dX0_become_70 : decode cX0_become 70 = .ok (.getfield 21, 3) := by decide +kernel
theorem dX0_become_73 : decode cX0_become 73 = .ok (.iconst 0, 1) := by decide +kernel
theorem dX0_become_74 : decode cX0_become 74 = .ok (.aload_n 0, 1) := by decide +kernel
theorem dX0_become_75 : decode cX0_become 75 = .ok (.getfield 21, 3) := by decide +kernel
theorem dX0_become_78 : decode cX0_become 78 = .ok (.iconst 0, 1) := by decide +kernel
theorem dX0_become_79 : decode cX0_become 79 = .ok (.bipush 7, 2) := by decide +kernel
theorem dX0_become_81 : decode cX0_become 81 = .ok (.invokestatic 55, 3) := by decide +kernel
theorem dX0_become_84 : decode cX0_become 84 = .ok (.aload_n 1, 1) := by decide +kernel
theorem dX0_become_85 : decode cX0_become 85 = .ok (.getfield 24, 3) := by decide +kernel
theorem dX0_become_88 : decode cX0_become 88 = .ok (.iconst 0, 1) := by decide +kernel
theorem dX0_become_89 : decode cX0_become 89 = .ok (.aload_n 0, 1) := by decide +kernel
theorem dX0_become_90 : decode cX0_become 90 = .ok (.getfield 24, 3) := by decide +kernel
theorem dX0_become_93 : decode cX0_become 93 = .ok (.iconst 0, 1) := by decide +kernel
theorem dX0_become_94 : decode cX0_become 94 = .ok (.bipush 7, 2) := by decide +kernel
theorem dX0_become_96 : decode cX0_become 96 = .ok (.invokestatic 55, 3) := by decide +kernel
theorem dX0_become_99 : decode cX0_become 99 = .ok (.aload_n 1, 1) := by decide +kernel
theorem dX0_become_100 : decode cX0_become 100 = .ok (.getfield 27, 3) := by decide +kernel
theorem dX0_become_103 : decode cX0_become 103 = .ok (.iconst 0, 1) := by decide +kernel
theorem dX0_become_104 : decode cX0_become 104 = .ok (.aload_n 0, 1) := by decide +kernel
theorem dX0_become_105 : decode cX0_become 105 = .ok (.getfield 27, 3) := by decide +kernel
theorem dX0_become_108 : decode cX0_become 108 = .ok (.iconst 0, 1) := by decide +kernel
theorem dX0_become_109 : decode cX0_become 109 = .ok (.bipush 6, 2) := by decide +kernel
theorem dX0_become_111 : decode cX0_become 111 = .ok (.invokestatic 55, 3) := by decide +kernel
theorem dX0_become_114 : decode cX0_become 114 = .ok (.aload_n 1, 1) := by decide +kernel
theorem dX0_become_115 : decode cX0_become 115 = .ok (.getfield 30, 3) := by decide +kernel
theorem dX0_become_118 : decode cX0_become 118 = .ok (.iconst 0, 1) := by decide +kernel
theorem dX0_become_119 : decode cX0_become 119 = .ok (.aload_n 0, 1) := by decide +kernel
theorem dX0_become_120 : decode cX0_become 120 = .ok (.getfield 30, 3) := by decide +kernel
theorem dX0_become_123 : decode cX0_become 123 = .ok (.iconst 0, 1) := by decide +kernel
theorem dX0_become_124 : decode cX0_become 124 = .ok (.bipush 6, 2) := by decide +kernel
theorem dX0_become_126 : decode cX0_become 126 = .ok (.invokestatic 55, 3) := by decide +kernel
theorem dX0_become_129 : decode cX0_become 129 = .ok (.aload_n 1, 1) := by decide +kernel
theorem dX0_become_130 : decode cX0_become 130 = .ok (.getfield 33, 3) := by decide +kernel
theorem dX0_become_133 : decode cX0_become 133 = .ok (.iconst 0, 1) := by decide +kernel
theorem dX0_become_134 : decode cX0_become 134 = .ok (.aload_n 0, 1) := by decide +kernel
theorem dX0_become_135 : decode cX0_become 135 = .ok (.getfield 33, 3) := by decide +kernel
theorem dX0_become_138 : decode cX0_become 138 = .ok (.iconst 0, 1) := by decide +kernel
theorem dX0_become_139 : decode cX0_become 139 = .ok (.bipush 6, 2) := by decide +kernel
theorem dX0_become_141 : decode cX0_become 141 = .ok (.invokestatic 55, 3) := by decide +kernel
theorem dX0_become_144 : decode cX0_become 144 = .ok (.aload_n 1, 1) := by decide +kernel
theorem dX0_become_145 : decode cX0_become 145 = .ok (.getfield 36, 3) := by decide +kernel
theorem dX0_become_148 : decode cX0_become 148 = .ok (.iconst 0, 1) := by decide +kernel
theorem dX0_become_149 : decode cX0_become 149 = .ok (.aload_n 0, 1) := by decide +kernel
theorem dX0_become_150 : decode cX0_become 150 = .ok (.getfield 36, 3) := by decide +kernel
theorem dX0_become_153 : decode cX0_become 153 = .ok (.iconst 0, 1) := by decide +kernel
theorem dX0_become_154 : decode cX0_become 154 = .ok (.bipush 6, 2) := by decide +kernel
theorem dX0_become_156 : decode cX0_become 156 = .ok (.invokestatic 55, 3) := by decide +kernel
theorem dX0_become_159 : decode cX0_become 159 = .ok (.aload_n 1, 1) := by decide +kernel
theorem dX0_become_160 : decode cX0_become 160 = .ok (.getfield 39, 3) := by decide +kernel
theorem dX0_become_163 : decode cX0_become 163 = .ok (.iconst 0, 1) := by decide +kernel
theorem dX0_become_164 : decode cX0_become 164 = .ok (.aload_n 0, 1) := by decide +kernel
theorem dX0_become_165 : decode cX0_become 165 = .ok (.getfield 39, 3) := by decide +kernel
theorem dX0_become_168 : decode cX0_become 168 = .ok (.iconst 0, 1) := by decide +kernel
theorem dX0_become_169 : decode cX0_become 169 = .ok (.bipush 6, 2) := by decide +kernel
theorem dX0_become_171 : decode cX0_become 171 = .ok (.invokestatic 55, 3) := by decide +kernel
theorem dX0_become_174 : decode cX0_become 174 = .ok (.aload_n 1, 1) := by decide +kernel
theorem dX0_become_175 : decode cX0_become 175 = .ok (.getfield 42, 3) := by decide +kernel
theorem dX0_become_178 : decode cX0_become 178 = .ok (.iconst 0, 1) := by decide +kernel
theorem dX0_become_179 : decode cX0_become 179 = .ok (.aload_n 0, 1) := by decide +kernel
theorem dX0_become_180 : decode cX0_become 180 = .ok (.getfield 42, 3) := by decide +kernel
theorem dX0_become_183 : decode cX0_become 183 = .ok (.iconst 0, 1) := by decide +kernel
theorem dX0_become_184 : decode cX0_become 184 = .ok (.bipush 7, 2) := by decide +kernel
theorem dX0_become_186 : decode cX0_become 186 = .ok (.invokestatic 55, 3) := by decide +kernel
theorem dX0_become_189 : decode cX0_become 189 = .ok (.return_, 1) := by decide +kernel
theorem dX0_addRoof_0 : decode cX0_addRoof 0 = .ok (.aload_n 0, 1) := by decide +kernel
theorem dX0_addRoof_1 : decode cX0_addRoof 1 = .ok (.getfield 45, 3) := by decide +kernel
theorem dX0_addRoof_4 : decode cX0_addRoof 4 = .ok (.bipush 7, 2) := by decide +kernel
theorem dX0_addRoof_6 : decode cX0_addRoof 6 = .ok (.if_icmp .lt 6, 3) := by decide +kernel
theorem dX0_addRoof_9 : decode cX0_addRoof 9 = .ok (.bipush (-4), 2) := by decide +kernel
theorem dX0_addRoof_11 : decode cX0_addRoof 11 = .ok (.ireturn, 1) := by decide +kernel
theorem dX0_addRoof_12 : decode cX0_addRoof 12 = .ok (.aload_n 0, 1) := by decide +kernel
theorem dX0_addRoof_13 : decode cX0_addRoof 13 = .ok (.getfield 9, 3) := by decide +kernel
theorem dX0_addRoof_16 : decode cX0_addRoof 16 = .ok (.aload_n 0, 1) := by decide +kernel
theorem dX0_addRoof_17 : decode cX0_addRoof 17 = .ok (.getfield 45, 3) := by decide +kernel
theorem dX0_addRoof_20 : decode cX0_addRoof 20 = .ok (.iload_n 1, 1) := by decide +kernel
theorem dX0_addRoof_21 : decode cX0_addRoof 21 = .ok (.iastore, 1) := by decide +kernel
theorem dX0_addRoof_22 : decode cX0_addRoof 22 = .ok (.aload_n 0, 1) := by decide +kernel
theorem dX0_addRoof_23 : decode cX0_addRoof 23 = .ok (.getfield 15, 3) := by decide +kernel
theorem dX0_addRoof_26 : decode cX0_addRoof 26 = .ok (.aload_n 0, 1) := by decide +kernel
theorem dX0_addRoof_27 : decode cX0_addRoof 27 = .ok (.getfield 45, 3) := by decide +kernel
theorem dX0_addRoof_30 : decode cX0_addRoof 30 = .ok (.iload_n 2, 1) := by decide +kernel
theorem dX0_addRoof_31 : decode cX0_addRoof 31 = .ok (.iastore, 1) := by decide +kernel
theorem dX0_addRoof_32 : decode cX0_addRoof 32 = .ok (.aload_n 0, 1) := by decide +kernel
theorem dX0_addRoof_33 : decode cX0_addRoof 33 = .ok (.getfield 18, 3) := by decide +kernel
theorem dX0_addRoof_36 : decode cX0_addRoof 36 = .ok (.aload_n 0, 1) := by decide +kernel
theorem dX0_addRoof_37 : decode cX0_addRoof 37 = .ok (.getfield 45, 3) := by decide +kernel
theorem dX0_addRoof_40 : decode cX0_addRoof 40 = .ok (.iconst 0, 1) := by decide +kernel
theorem dX0_addRoof_41 : decode cX0_addRoof 41 = .ok (.iconst 0, 1) := by decide +kernel
theorem dX0_addRoof_42 : decode cX0_addRoof 42 = .ok (.invokestatic 61, 3) := by decide +kernel
theorem dX0_addRoof_45 : decode cX0_addRoof 45 = .ok (.iload_n 3, 1) := by decide +kernel
theorem dX0_addRoof_46 : decode cX0_addRoof 46 = .ok (.iastore, 1) := by decide +kernel
theorem dX0_addRoof_47 : decode cX0_addRoof 47 = .ok (.aload_n 0, 1) := by decide +kernel
theorem dX0_addRoof_48 : decode cX0_addRoof 48 = .ok (.getfield 18, 3) := by decide +kernel
theorem dX0_addRoof_51 : decode cX0_addRoof 51 = .ok (.aload_n 0, 1) := by decide +kernel
theorem dX0_addRoof_52 : decode cX0_addRoof 52 = .ok (.getfield 45, 3) := by decide +kernel
theorem dX0_addRoof_55 : decode cX0_addRoof 55 = .ok (.iconst 0, 1) := by decide +kernel
theorem dX0_addRoof_56 : decode cX0_addRoof 56 = .ok (.iconst 1, 1) := by decide +kernel
theorem dX0_addRoof_57 : decode cX0_addRoof 57 = .ok (.invokestatic 61, 3) := by decide +kernel
theorem dX0_addRoof_60 : decode cX0_addRoof 60 = .ok (.iload 4, 2) := by decide +kernel
theorem dX0_addRoof_62 : decode cX0_addRoof 62 = .ok (.iastore, 1) := by decide +kernel
theorem dX0_addRoof_63 : decode cX0_addRoof 63 = .ok (.aload_n 0, 1) := by decide +kernel
theorem dX0_addRoof_64 : decode cX0_addRoof 64 = .ok (.getfield 18, 3) := by decide +kernel
theorem dX0_addRoof_67 : decode cX0_addRoof 67 = .ok (.aload_n 0, 1) := by decide +kernel
theorem dX0_addRoof_68 : decode cX0_addRoof 68 = .ok (.getfield 45, 3) := by decide +kernel
theorem dX0_addRoof_71 : decode cX0_addRoof 71 = .ok (.iconst 1, 1) := by decide +kernel
theorem dX0_addRoof_72 : decode cX0_addRoof 72 = .ok (.iconst 0, 1) := by decide +kernel
theorem dX0_addRoof_73 : decode cX0_addRoof 73 = .ok (.invokestatic 61, 3) := by decide +kernel
theorem dX0_addRoof_76 : decode cX0_addRoof 76 = .ok (.iload 5, 2) := by decide +kernel
theorem dX0_addRoof_78 : decode cX0_addRoof 78 = .ok (.iastore, 1) := by decide +kernel
theorem dX0_addRoof_79 : decode cX0_addRoof 79 = .ok (.aload_n 0, 1) := by decide +kernel
theorem dX0_addRoof_80 : decode cX0_addRoof 80 = .ok (.getfield 18, 3) := by decide +kernel
theorem dX0_addRoof_83 : decode cX0_addRoof 83 = .ok (.aload_n 0, 1) := by decide +kernel
theorem dX0_addRoof_84 : decode cX0_addRoof 84 = .ok (.getfield 45, 3) := by decide +kernel
theorem dX0_addRoof_87 : decode cX0_addRoof 87 = .ok (.iconst 1, 1) := by decide +kernel
theorem dX0_addRoof_88 : decode cX0_addRoof 88 = .ok (.iconst 1, 1) := by decide +kernel
theorem dX0_addRoof_89 : decode cX0_addRoof 89 = .ok (.invokestatic 61, 3) := by decide +kernel
theorem dX0_addRoof_92 : decode cX0_addRoof 92 = .ok (.iload 6, 2) := by decide +kernel
theorem dX0_addRoof_94 : decode cX0_addRoof 94 = .ok (.iastore, 1) := by decide +kernel
theorem dX0_addRoof_95 : decode cX0_addRoof 95 = .ok (.aload_n 0, 1) := by decide +kernel
theorem dX0_addRoof_96 : decode cX0_addRoof 96 = .ok (.getfield 21, 3) := by decide +kernel
theorem dX0_addRoof_99 : decode cX0_addRoof 99 = .ok (.aload_n 0, 1) := by decide +kernel
theorem dX0_addRoof_100 : decode cX0_addRoof 100 = .ok (.getfield 45, 3) := by decide +kernel
theorem dX0_addRoof_103 : decode cX0_addRoof 103 = .ok (.iconst (-1), 1) := by decide +kernel
theorem dX0_addRoof_104 : decode cX0_addRoof 104 = .ok (.iastore, 1) := by decide +kernel
theorem dX0_addRoof_105 : decode cX0_addRoof 105 = .ok (.aload_n 0, 1) := by decide +kernel
theorem dX0_addRoof_106 : decode cX0_addRoof 106 = .ok (.getfield 24, 3) := by decide +kernel
theorem dX0_addRoof_109 : decode cX0_addRoof 109 = .ok (.aload_n 0, 1) := by decide +kernel
theorem dX0_addRoof_110 : decode cX0_addRoof 110 = .ok (.getfield 45, 3) := by decide +kernel
theorem dX0_addRoof_113 : decode cX0_addRoof 113 = .ok (.iconst (-1), 1) := by decide +kernel
theorem dX0_addRoof_114 : decode cX0_addRoof 114 = .ok (.iastore, 1) := by decide +kernel
theorem dX0_addRoof_115 : decode cX0_addRoof 115 = .ok (.aload_n 0, 1) := by decide +kernel
theorem dX0_addRoof_116 : decode cX0_addRoof 116 = .ok (.dup, 1) := by decide +kernel
theorem dX0_addRoof_117 : decode cX0_addRoof 117 = .ok (.getfield 45, 3) := by decide +kernel
theorem dX0_addRoof_120 : decode cX0_addRoof 120 = .ok (.dup_x1, 1) := by decide +kernel
theorem dX0_addRoof_121 : decode cX0_addRoof 121 = .ok (.iconst 1, 1) := by decide +kernel
theorem dX0_addRoof_122 : decode cX0_addRoof 122 = .ok (.iadd, 1) := by decide +kernel
theorem dX0_addRoof_123 : decode cX0_addRoof 123 = .ok (.putfield 45, 3) := by decide +kernel
theorem dX0_addRoof_126 : decode cX0_addRoof 126 = .ok (.ireturn, 1) := by decide +kernel
theorem dX0_addStorm_0 : decode cX0_addStorm 0 = .ok (.aload_n 0, 1) := by decide +kernel
theorem dX0_addStorm_1 : decode cX0_addStorm 1 = .ok (.getfield 49, 3) := by decide +kernel
theorem dX0_addStorm_4 : decode cX0_addStorm 4 = .ok (.bipush 6, 2) := by decide +kernel
theorem dX0_addStorm_6 : decode cX0_addStorm 6 = .ok (.if_icmp .lt 6, 3) := by decide +kernel
theorem dX0_addStorm_9 : decode cX0_addStorm 9 = .ok (.bipush (-4), 2) := by decide +kernel
theorem dX0_addStorm_11 : decode cX0_addStorm 11 = .ok (.ireturn, 1) := by decide +kernel
theorem dX0_addStorm_12 : decode cX0_addStorm 12 = .ok (.aload_n 0, 1) := by decide +kernel
theorem dX0_addStorm_13 : decode cX0_addStorm 13 = .ok (.getfield 27, 3) := by decide +kernel
theorem dX0_addStorm_16 : decode cX0_addStorm 16 = .ok (.aload_n 0, 1) := by decide +kernel
theorem dX0_addStorm_17 : decode cX0_addStorm 17 = .ok (.getfield 49, 3) := by decide +kernel
theorem dX0_addStorm_20 : decode cX0_addStorm 20 = .ok (.iload_n 1, 1) := by decide +kernel
theorem dX0_addStorm_21 : decode cX0_addStorm 21 = .ok (.iastore, 1) := by decide +kernel
theorem dX0_addStorm_22 : decode cX0_addStorm 22 = .ok (.aload_n 0, 1) := by decide +kernel
theorem dX0_addStorm_23 : decode cX0_addStorm 23 = .ok (.getfield 30, 3) := by decide +kernel
theorem dX0_addStorm_26 : decode cX0_addStorm 26 = .ok (.aload_n 0, 1) := by decide +kernel
theorem dX0_addStorm_27 : decode cX0_addStorm 27 = .ok (.getfield 49, 3) := by decide +kernel
theorem dX0_addStorm_30 : decode cX0_addStorm 30 = .ok (.iload_n 2, 1) := by decide +kernel
theorem dX0_addStorm_31 : decode cX0_addStorm 31 = .ok (.iastore, 1) := by decide +kernel
theorem dX0_addStorm_32 : decode cX0_addStorm 32 = .ok (.aload_n 0, 1) := by decide +kernel
theorem dX0_addStorm_33 : decode cX0_addStorm 33 = .ok (.getfield 33, 3) := by decide +kernel
theorem dX0_addStorm_36 : decode cX0_addStorm 36 = .ok (.aload_n 0, 1) := by decide +kernel
theorem dX0_addStorm_37 : decode cX0_addStorm 37 = .ok (.getfield 49, 3) := by decide +kernel
theorem dX0_addStorm_40 : decode cX0_addStorm 40 = .ok (.iload_n 3, 1) := by decide +kernel
theorem dX0_addStorm_41 : decode cX0_addStorm 41 = .ok (.iastore, 1) := by decide +kernel
theorem dX0_addStorm_42 : decode cX0_addStorm 42 = .ok (.aload_n 0, 1) := by decide +kernel
theorem dX0_addStorm_43 : decode cX0_addStorm 43 = .ok (.getfield 36, 3) := by decide +kernel
theorem dX0_addStorm_46 : decode cX0_addStorm 46 = .ok (.aload_n 0, 1) := by decide +kernel
theorem dX0_addStorm_47 : decode cX0_addStorm 47 = .ok (.getfield 49, 3) := by decide +kernel
theorem dX0_addStorm_50 : decode cX0_addStorm 50 = .ok (.iload 4, 2) := by decide +kernel
theorem dX0_addStorm_52 : decode cX0_addStorm 52 = .ok (.iastore, 1) := by decide +kernel
theorem dX0_addStorm_53 : decode cX0_addStorm 53 = .ok (.aload_n 0, 1) := by decide +kernel
theorem dX0_addStorm_54 : decode cX0_addStorm 54 = .ok (.getfield 39, 3) := by decide +kernel
theorem dX0_addStorm_57 : decode cX0_addStorm 57 = .ok (.aload_n 0, 1) := by decide +kernel
theorem dX0_addStorm_58 : decode cX0_addStorm 58 = .ok (.getfield 49, 3) := by decide +kernel
theorem dX0_addStorm_61 : decode cX0_addStorm 61 = .ok (.iload 5, 2) := by decide +kernel
theorem dX0_addStorm_63 : decode cX0_addStorm 63 = .ok (.iastore, 1) := by decide +kernel
theorem dX0_addStorm_64 : decode cX0_addStorm 64 = .ok (.aload_n 0, 1) := by decide +kernel
theorem dX0_addStorm_65 : decode cX0_addStorm 65 = .ok (.dup, 1) := by decide +kernel
theorem dX0_addStorm_66 : decode cX0_addStorm 66 = .ok (.getfield 49, 3) := by decide +kernel
theorem dX0_addStorm_69 : decode cX0_addStorm 69 = .ok (.dup_x1, 1) := by decide +kernel
theorem dX0_addStorm_70 : decode cX0_addStorm 70 = .ok (.iconst 1, 1) := by decide +kernel
theorem dX0_addStorm_71 : decode cX0_addStorm 71 = .ok (.iadd, 1) := by decide +kernel
theorem dX0_addStorm_72 : decode cX0_addStorm 72 = .ok (.putfield 49, 3) := by decide +kernel
theorem dX0_addStorm_75 : decode cX0_addStorm 75 = .ok (.ireturn, 1) := by decide +kernel
theorem dX0_allGuns_0 : decode cX0_allGuns 0 = .ok (.iconst 0, 1) := by decide +kernel
theorem dX0_allGuns_1 : decode cX0_allGuns 1 = .ok (.istore_n 1, 1) := by decide +kernel
theorem dX0_allGuns_2 : decode cX0_allGuns 2 = .ok (.iconst 0, 1) := by decide +kernel
theorem dX0_allGuns_3 : decode cX0_allGuns 3 = .ok (.istore_n 2, 1) := by decide +kernel
theorem dX0_allGuns_4 : decode cX0_allGuns 4 = .ok (.iload_n 2, 1) := by decide +kernel
theorem dX0_allGuns_5 : decode cX0_allGuns 5 = .ok (.bipush 7, 2) := by decide +kernel
theorem dX0_allGuns_7 : decode cX0_allGuns 7 = .ok (.if_icmp .ge 18, 3) := by decide +kernel
theorem dX0_allGuns_10 : decode cX0_allGuns 10 = .ok (.iload_n 1, 1) := by decide +kernel
theorem dX0_allGuns_11 : decode cX0_allGuns 11 = .ok (.aload_n 0, 1) := by decide +kernel
theorem dX0_allGuns_12 : decode cX0_allGuns 12 = .ok (.getfield 42, 3) := by decide +kernel
theorem dX0_allGuns_15 : decode cX0_allGuns 15 = .ok (.iload_n 2, 1) := by decide +kernel
theorem dX0_allGuns_16 : decode cX0_allGuns 16 = .ok (.iaload, 1) := by decide +kernel
theorem dX0_allGuns_17 : decode cX0_allGuns 17 = .ok (.iadd, 1) := by decide +kernel
theorem dX0_allGuns_18 : decode cX0_allGuns 18 = .ok (.istore_n 1, 1) := by decide +kernel
theorem dX0_allGuns_19 : decode cX0_allGuns 19 = .ok (.iinc 2 1, 3) := by decide +kernel
theorem dX0_allGuns_22 : decode cX0_allGuns 22 = .ok (.goto (-18), 3) := by decide +kernel
theorem dX0_allGuns_25 : decode cX0_allGuns 25 = .ok (.iload_n 1, 1) := by decide +kernel
theorem dX0_allGuns_26 : decode cX0_allGuns 26 = .ok (.ireturn, 1) := by decide +kernel
theorem dX0_forceOn_0 : decode cX0_forceOn 0 = .ok (.iload_n 2, 1) := by decide +kernel
theorem dX0_forceOn_1 : decode cX0_forceOn 1 = .ok (.aload_n 0, 1) := by decide +kernel
theorem dX0_forceOn_2 : decode cX0_forceOn 2 = .ok (.getfield 27, 3) := by decide +kernel
theorem dX0_forceOn_5 : decode cX0_forceOn 5 = .ok (.iload_n 1, 1) := by decide +kernel
theorem dX0_forceOn_6 : decode cX0_forceOn 6 = .ok (.iaload, 1) := by decide +kernel
theorem dX0_forceOn_7 : decode cX0_forceOn 7 = .ok (.if_icmp .lt 13, 3) := by decide +kernel
theorem dX0_forceOn_10 : decode cX0_forceOn 10 = .ok (.iload_n 2, 1) := by decide +kernel
theorem dX0_forceOn_11 : decode cX0_forceOn 11 = .ok (.aload_n 0, 1) := by decide +kernel
theorem dX0_forceOn_12 : decode cX0_forceOn 12 = .ok (.getfield 30, 3) := by decide +kernel
theorem dX0_forceOn_15 : decode cX0_forceOn 15 = .ok (.iload_n 1, 1) := by decide +kernel
theorem dX0_forceOn_16 : decode cX0_forceOn 16 = .ok (.iaload, 1) := by decide +kernel
theorem dX0_forceOn_17 : decode cX0_forceOn 17 = .ok (.if_icmp .le 5, 3) := by decide +kernel
theorem dX0_forceOn_20 : decode cX0_forceOn 20 = .ok (.iconst 0, 1) := by decide +kernel
theorem dX0_forceOn_21 : decode cX0_forceOn 21 = .ok (.ireturn, 1) := by decide +kernel
theorem dX0_forceOn_22 : decode cX0_forceOn 22 = .ok (.iload_n 3, 1) := by decide +kernel
theorem dX0_forceOn_23 : decode cX0_forceOn 23 = .ok (.aload_n 0, 1) := by decide +kernel
theorem dX0_forceOn_24 : decode cX0_forceOn 24 = .ok (.getfield 33, 3) := by decide +kernel
theorem dX0_forceOn_27 : decode cX0_forceOn 27 = .ok (.iload_n 1, 1) := by decide +kernel
theorem dX0_forceOn_28 : decode cX0_forceOn 28 = .ok (.iaload, 1) := by decide +kernel
theorem dX0_forceOn_29 : decode cX0_forceOn 29 = .ok (.if_icmp .ne 12, 3) := by decide +kernel
theorem dX0_forceOn_32 : decode cX0_forceOn 32 = .ok (.aload_n 0, 1) := by decide +kernel
theorem dX0_forceOn_33 : decode cX0_forceOn 33 = .ok (.getfield 36, 3) := by decide +kernel
theorem dX0_forceOn_36 : decode cX0_forceOn 36 = .ok (.iload_n 1, 1) := by decide +kernel
theorem dX0_forceOn_37 : decode cX0_forceOn 37 = .ok (.iaload, 1) := by decide +kernel
theorem dX0_forceOn_38 : decode cX0_forceOn 38 = .ok (.goto 11, 3) := by decide +kernel
theorem dX0_forceOn_41 : decode cX0_forceOn 41 = .ok (.aload_n 0, 1) := by decide +kernel
theorem dX0_forceOn_42 : decode cX0_forceOn 42 = .ok (.getfield 36, 3) := by decide +kernel
theorem dX0_forceOn_45 : decode cX0_forceOn 45 = .ok (.iload_n 1, 1) := by decide +kernel
theorem dX0_forceOn_46 : decode cX0_forceOn 46 = .ok (.iaload, 1) := by decide +kernel
theorem dX0_forceOn_47 : decode cX0_forceOn 47 = .ok (.iconst 2, 1) := by decide +kernel
theorem dX0_forceOn_48 : decode cX0_forceOn 48 = .ok (.idiv, 1) := by decide +kernel
theorem dX0_forceOn_49 : decode cX0_forceOn 49 = .ok (.istore 4, 2) := by decide +kernel
theorem dX0_forceOn_51 : decode cX0_forceOn 51 = .ok (.iload_n 2, 1) := by decide +kernel
theorem dX0_forceOn_52 : decode cX0_forceOn 52 = .ok (.ifCond .le 14, 3) := by decide +kernel
theorem dX0_forceOn_55 : decode cX0_forceOn 55 = .ok (.aload_n 0, 1) := by decide +kernel
theorem dX0_forceOn_56 : decode cX0_forceOn 56 = .ok (.getfield 42, 3) := by decide +kernel
theorem dX0_forceOn_59 : decode cX0_forceOn 59 = .ok (.iload_n 2, 1) := by decide +kernel
theorem dX0_forceOn_60 : decode cX0_forceOn 60 = .ok (.iconst 1, 1) := by decide +kernel
theorem dX0_forceOn_61 : decode cX0_forceOn 61 = .ok (.isub, 1) := by decide +kernel
theorem dX0_forceOn_62 : decode cX0_forceOn 62 = .ok (.iaload, 1) := by decide +kernel
theorem dX0_forceOn_63 : decode cX0_forceOn 63 = .ok (.goto 4, 3) := by decide +kernel
theorem dX0_forceOn_66 : decode cX0_forceOn 66 = .ok (.iconst 0, 1) := by decide +kernel
theorem dX0_forceOn_67 : decode cX0_forceOn 67 = .ok (.istore 5, 2) := by decide +kernel
theorem dX0_forceOn_69 : decode cX0_forceOn 69 = .ok (.iload_n 2, 1) := by decide +kernel
theorem dX0_forceOn_70 : decode cX0_forceOn 70 = .ok (.bipush 6, 2) := by decide +kernel
theorem dX0_forceOn_72 : decode cX0_forceOn 72 = .ok (.if_icmp .ge 14, 3) := by decide +kernel
theorem dX0_forceOn_75 : decode cX0_forceOn 75 = .ok (.aload_n 0, 1) := by decide +kernel
theorem dX0_forceOn_76 : decode cX0_forceOn 76 = .ok (.getfield 42, 3) := by decide +kernel
theorem dX0_forceOn_79 : decode cX0_forceOn 79 = .ok (.iload_n 2, 1) := by decide +kernel
theorem dX0_forceOn_80 : decode cX0_forceOn 80 = .ok (.iconst 1, 1) := by decide +kernel
theorem dX0_forceOn_81 : decode cX0_forceOn 81 = .ok (.iadd, 1) := by decide +kernel
theorem dX0_forceOn_82 : decode cX0_forceOn 82 = .ok (.iaload, 1) := by decide +kernel
theorem dX0_forceOn_83 : decode cX0_forceOn 83 = .ok (.goto 4, 3) := by decide +kernel
theorem dX0_forceOn_86 : decode cX0_forceOn 86 = .ok (.iconst 0, 1) := by decide +kernel
theorem dX0_forceOn_87 : decode cX0_forceOn 87 = .ok (.istore 6, 2) := by decide +kernel
theorem dX0_forceOn_89 : decode cX0_forceOn 89 = .ok (.iconst 0, 1) := by decide +kernel
theorem dX0_forceOn_90 : decode cX0_forceOn 90 = .ok (.iload 4, 2) := by decide +kernel
theorem dX0_forceOn_92 : decode cX0_forceOn 92 = .ok (.iconst 2, 1) := by decide +kernel
theorem dX0_forceOn_93 : decode cX0_forceOn 93 = .ok (.aload_n 0, 1) := by decide +kernel
theorem dX0_forceOn_94 : decode cX0_forceOn 94 = .ok (.getfield 42, 3) := by decide +kernel
theorem dX0_forceOn_97 : decode cX0_forceOn 97 = .ok (.iload_n 2, 1) := by decide +kernel
theorem dX0_forceOn_98 : decode cX0_forceOn 98 = .ok (.iaload, 1) := by decide +kernel
theorem dX0_forceOn_99 : decode cX0_forceOn 99 = .ok (.imul, 1) := by decide +kernel
theorem dX0_forceOn_100 : decode cX0_forceOn 100 = .ok (.isub, 1) := by decide +kernel
theorem dX0_forceOn_101 : decode cX0_forceOn 101 = .ok (.iload 5, 2) := by decide +kernel
theorem dX0_forceOn_103 : decode cX0_forceOn 103 = .ok (.isub, 1) := by decide +kernel
theorem dX0_forceOn_104 : decode cX0_forceOn 104 = .ok (.iload 6, 2) := by decide +kernel
theorem dX0_forceOn_106 : decode cX0_forceOn 106 = .ok (.isub, 1) := by decide +kernel
theorem dX0_forceOn_107 : decode cX0_forceOn 107 = .ok (.invokestatic 65, 3) := by decide +kernel
theorem dX0_forceOn_110 : decode cX0_forceOn 110 = .ok (.ireturn, 1) := by decide +kernel
theorem dX0_toll_0 : decode cX0_toll 0 = .ok (.aload_n 0, 1) := by decide +kernel
theorem dX0_toll_1 : decode cX0_toll 1 = .ok (.iload_n 1, 1) := by decide +kernel
theorem dX0_toll_2 : decode cX0_toll 2 = .ok (.iload_n 2, 1) := by decide +kernel
theorem dX0_toll_3 : decode cX0_toll 3 = .ok (.iload_n 3, 1) := by decide +kernel
theorem dX0_toll_4 : decode cX0_toll 4 = .ok (.invokevirtual 71, 3) := by decide +kernel
theorem dX0_toll_7 : decode cX0_toll 7 = .ok (.istore 4, 2) := by decide +kernel
theorem dX0_toll_9 : decode cX0_toll 9 = .ok (.iload 4, 2) := by decide +kernel
theorem dX0_toll_11 : decode cX0_toll 11 = .ok (.ifCond .ne 5, 3) := by decide +kernel
theorem dX0_toll_14 : decode cX0_toll 14 = .ok (.iconst 0, 1) := by decide +kernel
theorem dX0_toll_15 : decode cX0_toll 15 = .ok (.ireturn, 1) := by decide +kernel
theorem dX0_toll_16 : decode cX0_toll 16 = .ok (.aload_n 0, 1) := by decide +kernel
theorem dX0_toll_17 : decode cX0_toll 17 = .ok (.getfield 9, 3) := by decide +kernel
theorem dX0_toll_20 : decode cX0_toll 20 = .ok (.iload_n 2, 1) := by decide +kernel
theorem dX0_toll_21 : decode cX0_toll 21 = .ok (.iaload, 1) := by decide +kernel
theorem dX0_toll_22 : decode cX0_toll 22 = .ok (.tableswitch 78 1 5 #[34, 44, 49, 60, 76], 34) := by decide +kernel
theorem dX0_toll_56 : decode cX0_toll 56 = .ok (.iload 4, 2) := by decide +kernel
theorem dX0_toll_58 : decode cX0_toll 58 = .ok (.aload_n 0, 1) := by decide +kernel
theorem dX0_toll_59 : decode cX0_toll 59 = .ok (.getfield 15, 3) := by decide +kernel
theorem dX0_toll_62 : decode cX0_toll 62 = .ok (.iload_n 2, 1) := by decide +kernel
theorem dX0_toll_63 : decode cX0_toll 63 = .ok (.iaload, 1) := by decide +kernel
theorem dX0_toll_64 : decode cX0_toll 64 = .ok (.iadd, 1) := by decide +kernel
theorem dX0_toll_65 : decode cX0_toll 65 = .ok (.ireturn, 1) := by decide +kernel
theorem dX0_toll_66 : decode cX0_toll 66 = .ok (.iload 4, 2) := by decide +kernel
theorem dX0_toll_68 : decode cX0_toll 68 = .ok (.iconst 2, 1) := by decide +kernel
theorem dX0_toll_69 : decode cX0_toll 69 = .ok (.idiv, 1) := by decide +kernel
theorem dX0_toll_70 : decode cX0_toll 70 = .ok (.ireturn, 1) := by decide +kernel
theorem dX0_toll_71 : decode cX0_toll 71 = .ok (.iconst 0, 1) := by decide +kernel
theorem dX0_toll_72 : decode cX0_toll 72 = .ok (.iload 4, 2) := by decide +kernel
theorem dX0_toll_74 : decode cX0_toll 74 = .ok (.iconst 2, 1) := by decide +kernel
theorem dX0_toll_75 : decode cX0_toll 75 = .ok (.idiv, 1) := by decide +kernel
theorem dX0_toll_76 : decode cX0_toll 76 = .ok (.iconst 1, 1) := by decide +kernel
theorem dX0_toll_77 : decode cX0_toll 77 = .ok (.isub, 1) := by decide +kernel
theorem dX0_toll_78 : decode cX0_toll 78 = .ok (.invokestatic 65, 3) := by decide +kernel
theorem dX0_toll_81 : decode cX0_toll 81 = .ok (.ireturn, 1) := by decide +kernel
theorem dX0_toll_82 : decode cX0_toll 82 = .ok (.iconst 0, 1) := by decide +kernel
theorem dX0_toll_83 : decode cX0_toll 83 = .ok (.iload 4, 2) := by decide +kernel
theorem dX0_toll_85 : decode cX0_toll 85 = .ok (.aload_n 0, 1) := by decide +kernel
theorem dX0_toll_86 : decode cX0_toll 86 = .ok (.getfield 15, 3) := by decide +kernel
theorem dX0_toll_89 : decode cX0_toll 89 = .ok (.iload_n 2, 1) := by decide +kernel
theorem dX0_toll_90 : decode cX0_toll 90 = .ok (.iaload, 1) := by decide +kernel
theorem dX0_toll_91 : decode cX0_toll 91 = .ok (.iadd, 1) := by decide +kernel
theorem dX0_toll_92 : decode cX0_toll 92 = .ok (.iconst 3, 1) := by decide +kernel
theorem dX0_toll_93 : decode cX0_toll 93 = .ok (.isub, 1) := by decide +kernel
theorem dX0_toll_94 : decode cX0_toll 94 = .ok (.invokestatic 65, 3) := by decide +kernel
theorem dX0_toll_97 : decode cX0_toll 97 = .ok (.ireturn, 1) := by decide +kernel
theorem dX0_toll_98 : decode cX0_toll 98 = .ok (.iconst 0, 1) := by decide +kernel
theorem dX0_toll_99 : decode cX0_toll 99 = .ok (.ireturn, 1) := by decide +kernel
theorem dX0_toll_100 : decode cX0_toll 100 = .ok (.iload 4, 2) := by decide +kernel
theorem dX0_toll_102 : decode cX0_toll 102 = .ok (.ireturn, 1) := by decide +kernel
theorem dX0_brokenOf_0 : decode cX0_brokenOf 0 = .ok (.aload_n 0, 1) := by decide +kernel
theorem dX0_brokenOf_1 : decode cX0_brokenOf 1 = .ok (.iload_n 1, 1) := by decide +kernel
theorem dX0_brokenOf_2 : decode cX0_brokenOf 2 = .ok (.iload_n 2, 1) := by decide +kernel
theorem dX0_brokenOf_3 : decode cX0_brokenOf 3 = .ok (.iconst 0, 1) := by decide +kernel
theorem dX0_brokenOf_4 : decode cX0_brokenOf 4 = .ok (.invokevirtual 74, 3) := by decide +kernel
theorem dX0_brokenOf_7 : decode cX0_brokenOf 7 = .ok (.aload_n 0, 1) := by decide +kernel
theorem dX0_brokenOf_8 : decode cX0_brokenOf 8 = .ok (.getfield 18, 3) := by decide +kernel
theorem dX0_brokenOf_11 : decode cX0_brokenOf 11 = .ok (.iload_n 2, 1) := by decide +kernel
theorem dX0_brokenOf_12 : decode cX0_brokenOf 12 = .ok (.iconst 0, 1) := by decide +kernel
theorem dX0_brokenOf_13 : decode cX0_brokenOf 13 = .ok (.iload_n 3, 1) := by decide +kernel
theorem dX0_brokenOf_14 : decode cX0_brokenOf 14 = .ok (.invokestatic 61, 3) := by decide +kernel
theorem dX0_brokenOf_17 : decode cX0_brokenOf 17 = .ok (.iaload, 1) := by decide +kernel
theorem dX0_brokenOf_18 : decode cX0_brokenOf 18 = .ok (.invokestatic 77, 3) := by decide +kernel
theorem dX0_brokenOf_21 : decode cX0_brokenOf 21 = .ok (.aload_n 0, 1) := by decide +kernel
theorem dX0_brokenOf_22 : decode cX0_brokenOf 22 = .ok (.iload_n 1, 1) := by decide +kernel
theorem dX0_brokenOf_23 : decode cX0_brokenOf 23 = .ok (.iload_n 2, 1) := by decide +kernel
theorem dX0_brokenOf_24 : decode cX0_brokenOf 24 = .ok (.iconst 1, 1) := by decide +kernel
theorem dX0_brokenOf_25 : decode cX0_brokenOf 25 = .ok (.invokevirtual 74, 3) := by decide +kernel
theorem dX0_brokenOf_28 : decode cX0_brokenOf 28 = .ok (.aload_n 0, 1) := by decide +kernel
theorem dX0_brokenOf_29 : decode cX0_brokenOf 29 = .ok (.getfield 18, 3) := by decide +kernel
theorem dX0_brokenOf_32 : decode cX0_brokenOf 32 = .ok (.iload_n 2, 1) := by decide +kernel
theorem dX0_brokenOf_33 : decode cX0_brokenOf 33 = .ok (.iconst 1, 1) := by decide +kernel
theorem dX0_brokenOf_34 : decode cX0_brokenOf 34 = .ok (.iload_n 3, 1) := by decide +kernel
theorem dX0_brokenOf_35 : decode cX0_brokenOf 35 = .ok (.invokestatic 61, 3) := by decide +kernel
theorem dX0_brokenOf_38 : decode cX0_brokenOf 38 = .ok (.iaload, 1) := by decide +kernel
theorem dX0_brokenOf_39 : decode cX0_brokenOf 39 = .ok (.invokestatic 77, 3) := by decide +kernel
theorem dX0_brokenOf_42 : decode cX0_brokenOf 42 = .ok (.iadd, 1) := by decide +kernel
theorem dX0_brokenOf_43 : decode cX0_brokenOf 43 = .ok (.ireturn, 1) := by decide +kernel
theorem dX0_brokenInAll_0 : decode cX0_brokenInAll 0 = .ok (.iconst 0, 1) := by decide +kernel
theorem dX0_brokenInAll_1 : decode cX0_brokenInAll 1 = .ok (.istore_n 3, 1) := by decide +kernel
theorem dX0_brokenInAll_2 : decode cX0_brokenInAll 2 = .ok (.iconst 0, 1) := by decide +kernel
theorem dX0_brokenInAll_3 : decode cX0_brokenInAll 3 = .ok (.istore 4, 2) := by decide +kernel
theorem dX0_brokenInAll_5 : decode cX0_brokenInAll 5 = .ok (.iload 4, 2) := by decide +kernel
theorem dX0_brokenInAll_7 : decode cX0_brokenInAll 7 = .ok (.aload_n 0, 1) := by decide +kernel
theorem dX0_brokenInAll_8 : decode cX0_brokenInAll 8 = .ok (.getfield 45, 3) := by decide +kernel
theorem dX0_brokenInAll_11 : decode cX0_brokenInAll 11 = .ok (.if_icmp .ge 20, 3) := by decide +kernel
theorem dX0_brokenInAll_14 : decode cX0_brokenInAll 14 = .ok (.iload_n 3, 1) := by decide +kernel
theorem dX0_brokenInAll_15 : decode cX0_brokenInAll 15 = .ok (.aload_n 0, 1) := by decide +kernel
theorem dX0_brokenInAll_16 : decode cX0_brokenInAll 16 = .ok (.iload_n 1, 1) := by decide +kernel
theorem dX0_brokenInAll_17 : decode cX0_brokenInAll 17 = .ok (.iload 4, 2) := by decide +kernel
theorem dX0_brokenInAll_19 : decode cX0_brokenInAll 19 = .ok (.iload_n 2, 1) := by decide +kernel
theorem dX0_brokenInAll_20 : decode cX0_brokenInAll 20 = .ok (.invokevirtual 80, 3) := by decide +kernel
theorem dX0_brokenInAll_23 : decode cX0_brokenInAll 23 = .ok (.iadd, 1) := by decide +kernel
theorem dX0_brokenInAll_24 : decode cX0_brokenInAll 24 = .ok (.istore_n 3, 1) := by decide +kernel
theorem dX0_brokenInAll_25 : decode cX0_brokenInAll 25 = .ok (.iinc 4 1, 3) := by decide +kernel
theorem dX0_brokenInAll_28 : decode cX0_brokenInAll 28 = .ok (.goto (-23), 3) := by decide +kernel
theorem dX0_brokenInAll_31 : decode cX0_brokenInAll 31 = .ok (.iload_n 3, 1) := by decide +kernel
theorem dX0_brokenInAll_32 : decode cX0_brokenInAll 32 = .ok (.ireturn, 1) := by decide +kernel
theorem dX0_lead_0 : decode cX0_lead 0 = .ok (.iconst 0, 1) := by decide +kernel
theorem dX0_lead_1 : decode cX0_lead 1 = .ok (.istore_n 2, 1) := by decide +kernel
theorem dX0_lead_2 : decode cX0_lead 2 = .ok (.iconst 0, 1) := by decide +kernel
theorem dX0_lead_3 : decode cX0_lead 3 = .ok (.istore_n 3, 1) := by decide +kernel
theorem dX0_lead_4 : decode cX0_lead 4 = .ok (.iload_n 3, 1) := by decide +kernel
theorem dX0_lead_5 : decode cX0_lead 5 = .ok (.aload_n 0, 1) := by decide +kernel
theorem dX0_lead_6 : decode cX0_lead 6 = .ok (.getfield 45, 3) := by decide +kernel
theorem dX0_lead_9 : decode cX0_lead 9 = .ok (.if_icmp .ge 27, 3) := by decide +kernel
theorem dX0_lead_12 : decode cX0_lead 12 = .ok (.iload_n 2, 1) := by decide +kernel
theorem dX0_lead_13 : decode cX0_lead 13 = .ok (.aload_n 0, 1) := by decide +kernel
theorem dX0_lead_14 : decode cX0_lead 14 = .ok (.iload_n 1, 1) := by decide +kernel
theorem dX0_lead_15 : decode cX0_lead 15 = .ok (.iload_n 3, 1) := by decide +kernel
theorem dX0_lead_16 : decode cX0_lead 16 = .ok (.iconst 0, 1) := by decide +kernel
theorem dX0_lead_17 : decode cX0_lead 17 = .ok (.invokevirtual 80, 3) := by decide +kernel
theorem dX0_lead_20 : decode cX0_lead 20 = .ok (.aload_n 0, 1) := by decide +kernel
theorem dX0_lead_21 : decode cX0_lead 21 = .ok (.iload_n 1, 1) := by decide +kernel
theorem dX0_lead_22 : decode cX0_lead 22 = .ok (.iload_n 3, 1) := by decide +kernel
theorem dX0_lead_23 : decode cX0_lead 23 = .ok (.iconst 1, 1) := by decide +kernel
theorem dX0_lead_24 : decode cX0_lead 24 = .ok (.invokevirtual 80, 3) := by decide +kernel
theorem dX0_lead_27 : decode cX0_lead 27 = .ok (.isub, 1) := by decide +kernel
theorem dX0_lead_28 : decode cX0_lead 28 = .ok (.iadd, 1) := by decide +kernel
theorem dX0_lead_29 : decode cX0_lead 29 = .ok (.istore_n 2, 1) := by decide +kernel
theorem dX0_lead_30 : decode cX0_lead 30 = .ok (.iinc 3 1, 3) := by decide +kernel
theorem dX0_lead_33 : decode cX0_lead 33 = .ok (.goto (-29), 3) := by decide +kernel
theorem dX0_lead_36 : decode cX0_lead 36 = .ok (.iload_n 2, 1) := by decide +kernel
theorem dX0_lead_37 : decode cX0_lead 37 = .ok (.ireturn, 1) := by decide +kernel
theorem dX0_winnerBy_0 : decode cX0_winnerBy 0 = .ok (.iload_n 0, 1) := by decide +kernel
theorem dX0_winnerBy_1 : decode cX0_winnerBy 1 = .ok (.ifCond .ne 5, 3) := by decide +kernel
theorem dX0_winnerBy_4 : decode cX0_winnerBy 4 = .ok (.iconst (-1), 1) := by decide +kernel
theorem dX0_winnerBy_5 : decode cX0_winnerBy 5 = .ok (.ireturn, 1) := by decide +kernel
theorem dX0_winnerBy_6 : decode cX0_winnerBy 6 = .ok (.iload_n 0, 1) := by decide +kernel
theorem dX0_winnerBy_7 : decode cX0_winnerBy 7 = .ok (.ifCond .le 7, 3) := by decide +kernel
theorem dX0_winnerBy_10 : decode cX0_winnerBy 10 = .ok (.iconst 1, 1) := by decide +kernel
theorem dX0_winnerBy_11 : decode cX0_winnerBy 11 = .ok (.goto 4, 3) := by decide +kernel
theorem dX0_winnerBy_14 : decode cX0_winnerBy 14 = .ok (.iconst 0, 1) := by decide +kernel
theorem dX0_winnerBy_15 : decode cX0_winnerBy 15 = .ok (.ireturn, 1) := by decide +kernel
theorem dX0_isDecidedBy_0 : decode cX0_isDecidedBy 0 = .ok (.aload_n 0, 1) := by decide +kernel
theorem dX0_isDecidedBy_1 : decode cX0_isDecidedBy 1 = .ok (.iload_n 1, 1) := by decide +kernel
theorem dX0_isDecidedBy_2 : decode cX0_isDecidedBy 2 = .ok (.invokevirtual 83, 3) := by decide +kernel
theorem dX0_isDecidedBy_5 : decode cX0_isDecidedBy 5 = .ok (.istore_n 3, 1) := by decide +kernel
theorem dX0_isDecidedBy_6 : decode cX0_isDecidedBy 6 = .ok (.iload_n 3, 1) := by decide +kernel
theorem dX0_isDecidedBy_7 : decode cX0_isDecidedBy 7 = .ok (.aload_n 0, 1) := by decide +kernel
theorem dX0_isDecidedBy_8 : decode cX0_isDecidedBy 8 = .ok (.iload_n 1, 1) := by decide +kernel
theorem dX0_isDecidedBy_9 : decode cX0_isDecidedBy 9 = .ok (.iload_n 2, 1) := by decide +kernel
theorem dX0_isDecidedBy_10 : decode cX0_isDecidedBy 10 = .ok (.iconst 0, 1) := by decide +kernel
theorem dX0_isDecidedBy_11 : decode cX0_isDecidedBy 11 = .ok (.invokevirtual 80, 3) := by decide +kernel
theorem dX0_isDecidedBy_14 : decode cX0_isDecidedBy 14 = .ok (.isub, 1) := by decide +kernel
theorem dX0_isDecidedBy_15 : decode cX0_isDecidedBy 15 = .ok (.aload_n 0, 1) := by decide +kernel
theorem dX0_isDecidedBy_16 : decode cX0_isDecidedBy 16 = .ok (.iload_n 1, 1) := by decide +kernel
theorem dX0_isDecidedBy_17 : decode cX0_isDecidedBy 17 = .ok (.iload_n 2, 1) := by decide +kernel
theorem dX0_isDecidedBy_18 : decode cX0_isDecidedBy 18 = .ok (.iconst 1, 1) := by decide +kernel
theorem dX0_isDecidedBy_19 : decode cX0_isDecidedBy 19 = .ok (.invokevirtual 80, 3) := by decide +kernel
theorem dX0_isDecidedBy_22 : decode cX0_isDecidedBy 22 = .ok (.iadd, 1) := by decide +kernel
theorem dX0_isDecidedBy_23 : decode cX0_isDecidedBy 23 = .ok (.istore 4, 2) := by decide +kernel
theorem dX0_isDecidedBy_25 : decode cX0_isDecidedBy 25 = .ok (.iload_n 3, 1) := by decide +kernel
theorem dX0_isDecidedBy_26 : decode cX0_isDecidedBy 26 = .ok (.invokestatic 87, 3) := by decide +kernel
theorem dX0_isDecidedBy_29 : decode cX0_isDecidedBy 29 = .ok (.iload 4, 2) := by decide +kernel
theorem dX0_isDecidedBy_31 : decode cX0_isDecidedBy 31 = .ok (.invokestatic 87, 3) := by decide +kernel
theorem dX0_isDecidedBy_34 : decode cX0_isDecidedBy 34 = .ok (.if_icmp .eq 7, 3) := by decide +kernel
theorem dX0_isDecidedBy_37 : decode cX0_isDecidedBy 37 = .ok (.iconst 1, 1) := by decide +kernel
theorem dX0_isDecidedBy_38 : decode cX0_isDecidedBy 38 = .ok (.goto 4, 3) := by decide +kernel
theorem dX0_isDecidedBy_41 : decode cX0_isDecidedBy 41 = .ok (.iconst 0, 1) := by decide +kernel
theorem dX0_isDecidedBy_42 : decode cX0_isDecidedBy 42 = .ok (.ireturn, 1) := by decide +kernel
theorem dX0_allChances_0 : decode cX0_allChances 0 = .ok (.iconst 0, 1) := by decide +kernel
theorem dX0_allChances_1 : decode cX0_allChances 1 = .ok (.istore_n 1, 1) := by decide +kernel
theorem dX0_allChances_2 : decode cX0_allChances 2 = .ok (.iconst 0, 1) := by decide +kernel
theorem dX0_allChances_3 : decode cX0_allChances 3 = .ok (.istore_n 2, 1) := by decide +kernel
theorem dX0_allChances_4 : decode cX0_allChances 4 = .ok (.iload_n 2, 1) := by decide +kernel
theorem dX0_allChances_5 : decode cX0_allChances 5 = .ok (.aload_n 0, 1) := by decide +kernel
theorem dX0_allChances_6 : decode cX0_allChances 6 = .ok (.getfield 49, 3) := by decide +kernel
theorem dX0_allChances_9 : decode cX0_allChances 9 = .ok (.if_icmp .ge 18, 3) := by decide +kernel
theorem dX0_allChances_12 : decode cX0_allChances 12 = .ok (.iload_n 1, 1) := by decide +kernel
theorem dX0_allChances_13 : decode cX0_allChances 13 = .ok (.aload_n 0, 1) := by decide +kernel
theorem dX0_allChances_14 : decode cX0_allChances 14 = .ok (.getfield 39, 3) := by decide +kernel
theorem dX0_allChances_17 : decode cX0_allChances 17 = .ok (.iload_n 2, 1) := by decide +kernel
theorem dX0_allChances_18 : decode cX0_allChances 18 = .ok (.iaload, 1) := by decide +kernel
theorem dX0_allChances_19 : decode cX0_allChances 19 = .ok (.iadd, 1) := by decide +kernel
theorem dX0_allChances_20 : decode cX0_allChances 20 = .ok (.istore_n 1, 1) := by decide +kernel
theorem dX0_allChances_21 : decode cX0_allChances 21 = .ok (.iinc 2 1, 3) := by decide +kernel
theorem dX0_allChances_24 : decode cX0_allChances 24 = .ok (.goto (-20), 3) := by decide +kernel
theorem dX0_allChances_27 : decode cX0_allChances 27 = .ok (.iload_n 1, 1) := by decide +kernel
theorem dX0_allChances_28 : decode cX0_allChances 28 = .ok (.ireturn, 1) := by decide +kernel
theorem dX0_chancesOf_0 : decode cX0_chancesOf 0 = .ok (.iconst 0, 1) := by decide +kernel
theorem dX0_chancesOf_1 : decode cX0_chancesOf 1 = .ok (.istore_n 2, 1) := by decide +kernel
theorem dX0_chancesOf_2 : decode cX0_chancesOf 2 = .ok (.iconst 0, 1) := by decide +kernel
theorem dX0_chancesOf_3 : decode cX0_chancesOf 3 = .ok (.istore_n 3, 1) := by decide +kernel
theorem dX0_chancesOf_4 : decode cX0_chancesOf 4 = .ok (.iload_n 3, 1) := by decide +kernel
theorem dX0_chancesOf_5 : decode cX0_chancesOf 5 = .ok (.aload_n 0, 1) := by decide +kernel
theorem dX0_chancesOf_6 : decode cX0_chancesOf 6 = .ok (.getfield 49, 3) := by decide +kernel
theorem dX0_chancesOf_9 : decode cX0_chancesOf 9 = .ok (.if_icmp .ge 30, 3) := by decide +kernel
theorem dX0_chancesOf_12 : decode cX0_chancesOf 12 = .ok (.aload_n 0, 1) := by decide +kernel
theorem dX0_chancesOf_13 : decode cX0_chancesOf 13 = .ok (.iload_n 3, 1) := by decide +kernel
theorem dX0_chancesOf_14 : decode cX0_chancesOf 14 = .ok (.invokevirtual 83, 3) := by decide +kernel
theorem dX0_chancesOf_17 : decode cX0_chancesOf 17 = .ok (.invokestatic 87, 3) := by decide +kernel
theorem dX0_chancesOf_20 : decode cX0_chancesOf 20 = .ok (.iload_n 1, 1) := by decide +kernel
theorem dX0_chancesOf_21 : decode cX0_chancesOf 21 = .ok (.if_icmp .ne 12, 3) := by decide +kernel
theorem dX0_chancesOf_24 : decode cX0_chancesOf 24 = .ok (.iload_n 2, 1) := by decide +kernel
theorem dX0_chancesOf_25 : decode cX0_chancesOf 25 = .ok (.aload_n 0, 1) := by decide +kernel
theorem dX0_chancesOf_26 : decode cX0_chancesOf 26 = .ok (.getfield 39, 3) := by decide +kernel
theorem dX0_chancesOf_29 : decode cX0_chancesOf 29 = .ok (.iload_n 3, 1) := by decide +kernel
theorem dX0_chancesOf_30 : decode cX0_chancesOf 30 = .ok (.iaload, 1) := by decide +kernel
theorem dX0_chancesOf_31 : decode cX0_chancesOf 31 = .ok (.iadd, 1) := by decide +kernel
theorem dX0_chancesOf_32 : decode cX0_chancesOf 32 = .ok (.istore_n 2, 1) := by decide +kernel
theorem dX0_chancesOf_33 : decode cX0_chancesOf 33 = .ok (.iinc 3 1, 3) := by decide +kernel
theorem dX0_chancesOf_36 : decode cX0_chancesOf 36 = .ok (.goto (-32), 3) := by decide +kernel
theorem dX0_chancesOf_39 : decode cX0_chancesOf 39 = .ok (.iload_n 2, 1) := by decide +kernel
theorem dX0_chancesOf_40 : decode cX0_chancesOf 40 = .ok (.ireturn, 1) := by decide +kernel
theorem dX0_chancesWithGun_0 : decode cX0_chancesWithGun 0 = .ok (.aload_n 0, 1) := by decide +kernel
theorem dX0_chancesWithGun_1 : decode cX0_chancesWithGun 1 = .ok (.getfield 42, 3) := by decide +kernel
theorem dX0_chancesWithGun_4 : decode cX0_chancesWithGun 4 = .ok (.iload_n 1, 1) := by decide +kernel
theorem dX0_chancesWithGun_5 : decode cX0_chancesWithGun 5 = .ok (.iconst 1, 1) := by decide +kernel
theorem dX0_chancesWithGun_6 : decode cX0_chancesWithGun 6 = .ok (.iastore, 1) := by decide +kernel
theorem dX0_chancesWithGun_7 : decode cX0_chancesWithGun 7 = .ok (.aload_n 0, 1) := by decide +kernel
theorem dX0_chancesWithGun_8 : decode cX0_chancesWithGun 8 = .ok (.iload_n 2, 1) := by decide +kernel
theorem dX0_chancesWithGun_9 : decode cX0_chancesWithGun 9 = .ok (.invokevirtual 90, 3) := by decide +kernel
theorem dX0_chancesWithGun_12 : decode cX0_chancesWithGun 12 = .ok (.istore_n 3, 1) := by decide +kernel
theorem dX0_chancesWithGun_13 : decode cX0_chancesWithGun 13 = .ok (.aload_n 0, 1) := by decide +kernel
theorem dX0_chancesWithGun_14 : decode cX0_chancesWithGun 14 = .ok (.getfield 42, 3) := by decide +kernel
theorem dX0_chancesWithGun_17 : decode cX0_chancesWithGun 17 = .ok (.iload_n 1, 1) := by decide +kernel
theorem dX0_chancesWithGun_18 : decode cX0_chancesWithGun 18 = .ok (.iconst 0, 1) := by decide +kernel
theorem dX0_chancesWithGun_19 : decode cX0_chancesWithGun 19 = .ok (.iastore, 1) := by decide +kernel
theorem dX0_chancesWithGun_20 : decode cX0_chancesWithGun 20 = .ok (.iload_n 3, 1) := by decide +kernel
theorem dX0_chancesWithGun_21 : decode cX0_chancesWithGun 21 = .ok (.ireturn, 1) := by decide +kernel
theorem dX0_edgeOfBlue_0 : decode cX0_edgeOfBlue 0 = .ok (.iconst 0, 1) := by decide +kernel
theorem dX0_edgeOfBlue_1 : decode cX0_edgeOfBlue 1 = .ok (.istore_n 1, 1) := by decide +kernel
theorem dX0_edgeOfBlue_2 : decode cX0_edgeOfBlue 2 = .ok (.iconst 0, 1) := by decide +kernel
theorem dX0_edgeOfBlue_3 : decode cX0_edgeOfBlue 3 = .ok (.istore_n 2, 1) := by decide +kernel
theorem dX0_edgeOfBlue_4 : decode cX0_edgeOfBlue 4 = .ok (.iload_n 2, 1) := by decide +kernel
theorem dX0_edgeOfBlue_5 : decode cX0_edgeOfBlue 5 = .ok (.aload_n 0, 1) := by decide +kernel
theorem dX0_edgeOfBlue_6 : decode cX0_edgeOfBlue 6 = .ok (.getfield 49, 3) := by decide +kernel
theorem dX0_edgeOfBlue_9 : decode cX0_edgeOfBlue 9 = .ok (.if_icmp .ge 44, 3) := by decide +kernel
theorem dX0_edgeOfBlue_12 : decode cX0_edgeOfBlue 12 = .ok (.aload_n 0, 1) := by decide +kernel
theorem dX0_edgeOfBlue_13 : decode cX0_edgeOfBlue 13 = .ok (.iload_n 2, 1) := by decide +kernel
theorem dX0_edgeOfBlue_14 : decode cX0_edgeOfBlue 14 = .ok (.invokevirtual 83, 3) := by decide +kernel
theorem dX0_edgeOfBlue_17 : decode cX0_edgeOfBlue 17 = .ok (.istore_n 3, 1) := by decide +kernel
theorem dX0_edgeOfBlue_18 : decode cX0_edgeOfBlue 18 = .ok (.iload_n 3, 1) := by decide +kernel
theorem dX0_edgeOfBlue_19 : decode cX0_edgeOfBlue 19 = .ok (.ifCond .ge 15, 3) := by decide +kernel
theorem dX0_edgeOfBlue_22 : decode cX0_edgeOfBlue 22 = .ok (.iload_n 1, 1) := by decide +kernel
theorem dX0_edgeOfBlue_23 : decode cX0_edgeOfBlue 23 = .ok (.aload_n 0, 1) := by decide +kernel
theorem dX0_edgeOfBlue_24 : decode cX0_edgeOfBlue 24 = .ok (.getfield 39, 3) := by decide +kernel
theorem dX0_edgeOfBlue_27 : decode cX0_edgeOfBlue 27 = .ok (.iload_n 2, 1) := by decide +kernel
theorem dX0_edgeOfBlue_28 : decode cX0_edgeOfBlue 28 = .ok (.iaload, 1) := by decide +kernel
theorem dX0_edgeOfBlue_29 : decode cX0_edgeOfBlue 29 = .ok (.iadd, 1) := by decide +kernel
theorem dX0_edgeOfBlue_30 : decode cX0_edgeOfBlue 30 = .ok (.istore_n 1, 1) := by decide +kernel
theorem dX0_edgeOfBlue_31 : decode cX0_edgeOfBlue 31 = .ok (.goto 16, 3) := by decide +kernel
theorem dX0_edgeOfBlue_34 : decode cX0_edgeOfBlue 34 = .ok (.iload_n 3, 1) := by decide +kernel
theorem dX0_edgeOfBlue_35 : decode cX0_edgeOfBlue 35 = .ok (.ifCond .le 12, 3) := by decide +kernel
theorem dX0_edgeOfBlue_38 : decode cX0_edgeOfBlue 38 = .ok (.iload_n 1, 1) := by decide +kernel
theorem dX0_edgeOfBlue_39 : decode cX0_edgeOfBlue 39 = .ok (.aload_n 0, 1) := by decide +kernel
theorem dX0_edgeOfBlue_40 : decode cX0_edgeOfBlue 40 = .ok (.getfield 39, 3) := by decide +kernel
theorem dX0_edgeOfBlue_43 : decode cX0_edgeOfBlue 43 = .ok (.iload_n 2, 1) := by decide +kernel
theorem dX0_edgeOfBlue_44 : decode cX0_edgeOfBlue 44 = .ok (.iaload, 1) := by decide +kernel
theorem dX0_edgeOfBlue_45 : decode cX0_edgeOfBlue 45 = .ok (.isub, 1) := by decide +kernel
theorem dX0_edgeOfBlue_46 : decode cX0_edgeOfBlue 46 = .ok (.istore_n 1, 1) := by decide +kernel
theorem dX0_edgeOfBlue_47 : decode cX0_edgeOfBlue 47 = .ok (.iinc 2 1, 3) := by decide +kernel
theorem dX0_edgeOfBlue_50 : decode cX0_edgeOfBlue 50 = .ok (.goto (-46), 3) := by decide +kernel
theorem dX0_edgeOfBlue_53 : decode cX0_edgeOfBlue 53 = .ok (.iload_n 1, 1) := by decide +kernel
theorem dX0_edgeOfBlue_54 : decode cX0_edgeOfBlue 54 = .ok (.ireturn, 1) := by decide +kernel
theorem dX0_keepsEdge_0 : decode cX0_keepsEdge 0 = .ok (.iconst 0, 1) := by decide +kernel
theorem dX0_keepsEdge_1 : decode cX0_keepsEdge 1 = .ok (.iload_n 1, 1) := by decide +kernel
theorem dX0_keepsEdge_2 : decode cX0_keepsEdge 2 = .ok (.iconst 0, 1) := by decide +kernel
theorem dX0_keepsEdge_3 : decode cX0_keepsEdge 3 = .ok (.invokestatic 61, 3) := by decide +kernel
theorem dX0_keepsEdge_6 : decode cX0_keepsEdge 6 = .ok (.istore_n 3, 1) := by decide +kernel
theorem dX0_keepsEdge_7 : decode cX0_keepsEdge 7 = .ok (.iconst 0, 1) := by decide +kernel
theorem dX0_keepsEdge_8 : decode cX0_keepsEdge 8 = .ok (.iload_n 1, 1) := by decide +kernel
theorem dX0_keepsEdge_9 : decode cX0_keepsEdge 9 = .ok (.iconst 1, 1) := by decide +kernel
theorem dX0_keepsEdge_10 : decode cX0_keepsEdge 10 = .ok (.invokestatic 61, 3) := by decide +kernel
theorem dX0_keepsEdge_13 : decode cX0_keepsEdge 13 = .ok (.istore 4, 2) := by decide +kernel
theorem dX0_keepsEdge_15 : decode cX0_keepsEdge 15 = .ok (.aload_n 0, 1) := by decide +kernel
theorem dX0_keepsEdge_16 : decode cX0_keepsEdge 16 = .ok (.getfield 18, 3) := by decide +kernel
theorem dX0_keepsEdge_19 : decode cX0_keepsEdge 19 = .ok (.iload 4, 2) := by decide +kernel
theorem dX0_keepsEdge_21 : decode cX0_keepsEdge 21 = .ok (.iaload, 1) := by decide +kernel
theorem dX0_keepsEdge_22 : decode cX0_keepsEdge 22 = .ok (.ifCond .ne 5, 3) := by decide +kernel
theorem dX0_keepsEdge_25 : decode cX0_keepsEdge 25 = .ok (.iconst 0, 1) := by decide +kernel
theorem dX0_keepsEdge_26 : decode cX0_keepsEdge 26 = .ok (.ireturn, 1) := by decide +kernel
theorem dX0_keepsEdge_27 : decode cX0_keepsEdge 27 = .ok (.aload_n 0, 1) := by decide +kernel
theorem dX0_keepsEdge_28 : decode cX0_keepsEdge 28 = .ok (.getfield 18, 3) := by decide +kernel
theorem dX0_keepsEdge_31 : decode cX0_keepsEdge 31 = .ok (.iload 4, 2) := by decide +kernel
theorem dX0_keepsEdge_33 : decode cX0_keepsEdge 33 = .ok (.dup2, 1) := by decide +kernel
theorem dX0_keepsEdge_34 : decode cX0_keepsEdge 34 = .ok (.iaload, 1) := by decide +kernel
theorem dX0_keepsEdge_35 : decode cX0_keepsEdge 35 = .ok (.iconst 1, 1) := by decide +kernel
theorem dX0_keepsEdge_36 : decode cX0_keepsEdge 36 = .ok (.isub, 1) := by decide +kernel
theorem dX0_keepsEdge_37 : decode cX0_keepsEdge 37 = .ok (.iastore, 1) := by decide +kernel
theorem dX0_keepsEdge_38 : decode cX0_keepsEdge 38 = .ok (.aload_n 0, 1) := by decide +kernel
theorem dX0_keepsEdge_39 : decode cX0_keepsEdge 39 = .ok (.getfield 18, 3) := by decide +kernel
theorem dX0_keepsEdge_42 : decode cX0_keepsEdge 42 = .ok (.iload_n 3, 1) := by decide +kernel
theorem dX0_keepsEdge_43 : decode cX0_keepsEdge 43 = .ok (.dup2, 1) := by decide +kernel
theorem dX0_keepsEdge_44 : decode cX0_keepsEdge 44 = .ok (.iaload, 1) := by decide +kernel
theorem dX0_keepsEdge_45 : decode cX0_keepsEdge 45 = .ok (.iconst 1, 1) := by decide +kernel
theorem dX0_keepsEdge_46 : decode cX0_keepsEdge 46 = .ok (.iadd, 1) := by decide +kernel
theorem dX0_keepsEdge_47 : decode cX0_keepsEdge 47 = .ok (.iastore, 1) := by decide +kernel
theorem dX0_keepsEdge_48 : decode cX0_keepsEdge 48 = .ok (.aload_n 0, 1) := by decide +kernel
theorem dX0_keepsEdge_49 : decode cX0_keepsEdge 49 = .ok (.invokevirtual 93, 3) := by decide +kernel
theorem dX0_keepsEdge_52 : decode cX0_keepsEdge 52 = .ok (.iload_n 2, 1) := by decide +kernel
theorem dX0_keepsEdge_53 : decode cX0_keepsEdge 53 = .ok (.if_icmp .ne 7, 3) := by decide +kernel
theorem dX0_keepsEdge_56 : decode cX0_keepsEdge 56 = .ok (.iconst 1, 1) := by decide +kernel
theorem dX0_keepsEdge_57 : decode cX0_keepsEdge 57 = .ok (.goto 4, 3) := by decide +kernel
theorem dX0_keepsEdge_60 : decode cX0_keepsEdge 60 = .ok (.iconst 0, 1) := by decide +kernel
theorem dX0_keepsEdge_61 : decode cX0_keepsEdge 61 = .ok (.istore 5, 2) := by decide +kernel
theorem dX0_keepsEdge_63 : decode cX0_keepsEdge 63 = .ok (.aload_n 0, 1) := by decide +kernel
theorem dX0_keepsEdge_64 : decode cX0_keepsEdge 64 = .ok (.getfield 18, 3) := by decide +kernel
theorem dX0_keepsEdge_67 : decode cX0_keepsEdge 67 = .ok (.iload_n 3, 1) := by decide +kernel
theorem dX0_keepsEdge_68 : decode cX0_keepsEdge 68 = .ok (.dup2, 1) := by decide +kernel
theorem dX0_keepsEdge_69 : decode cX0_keepsEdge 69 = .ok (.iaload, 1) := by decide +kernel
theorem dX0_keepsEdge_70 : decode cX0_keepsEdge 70 = .ok (.iconst 1, 1) := by decide +kernel
theorem dX0_keepsEdge_71 : decode cX0_keepsEdge 71 = .ok (.isub, 1) := by decide +kernel
theorem dX0_keepsEdge_72 : decode cX0_keepsEdge 72 = .ok (.iastore, 1) := by decide +kernel
theorem dX0_keepsEdge_73 : decode cX0_keepsEdge 73 = .ok (.aload_n 0, 1) := by decide +kernel
theorem dX0_keepsEdge_74 : decode cX0_keepsEdge 74 = .ok (.getfield 18, 3) := by decide +kernel
theorem dX0_keepsEdge_77 : decode cX0_keepsEdge 77 = .ok (.iload 4, 2) := by decide +kernel
theorem dX0_keepsEdge_79 : decode cX0_keepsEdge 79 = .ok (.dup2, 1) := by decide +kernel
theorem dX0_keepsEdge_80 : decode cX0_keepsEdge 80 = .ok (.iaload, 1) := by decide +kernel
theorem dX0_keepsEdge_81 : decode cX0_keepsEdge 81 = .ok (.iconst 1, 1) := by decide +kernel
theorem dX0_keepsEdge_82 : decode cX0_keepsEdge 82 = .ok (.iadd, 1) := by decide +kernel
theorem dX0_keepsEdge_83 : decode cX0_keepsEdge 83 = .ok (.iastore, 1) := by decide +kernel
theorem dX0_keepsEdge_84 : decode cX0_keepsEdge 84 = .ok (.iload 5, 2) := by decide +kernel
theorem dX0_keepsEdge_86 : decode cX0_keepsEdge 86 = .ok (.ireturn, 1) := by decide +kernel
theorem dX0_isTold_0 : decode cX0_isTold 0 = .ok (.aload_n 0, 1) := by decide +kernel
theorem dX0_isTold_1 : decode cX0_isTold 1 = .ok (.getfield 21, 3) := by decide +kernel
theorem dX0_isTold_4 : decode cX0_isTold 4 = .ok (.iload_n 1, 1) := by decide +kernel
theorem dX0_isTold_5 : decode cX0_isTold 5 = .ok (.iaload, 1) := by decide +kernel
theorem dX0_isTold_6 : decode cX0_isTold 6 = .ok (.iconst (-1), 1) := by decide +kernel
theorem dX0_isTold_7 : decode cX0_isTold 7 = .ok (.if_icmp .eq 7, 3) := by decide +kernel
theorem dX0_isTold_10 : decode cX0_isTold 10 = .ok (.iconst 1, 1) := by decide +kernel
theorem dX0_isTold_11 : decode cX0_isTold 11 = .ok (.goto 4, 3) := by decide +kernel
theorem dX0_isTold_14 : decode cX0_isTold 14 = .ok (.iconst 0, 1) := by decide +kernel
theorem dX0_isTold_15 : decode cX0_isTold 15 = .ok (.ireturn, 1) := by decide +kernel
theorem dX0_breaksAsTold_0 : decode cX0_breaksAsTold 0 = .ok (.aload_n 0, 1) := by decide +kernel
theorem dX0_breaksAsTold_1 : decode cX0_breaksAsTold 1 = .ok (.iload_n 1, 1) := by decide +kernel
theorem dX0_breaksAsTold_2 : decode cX0_breaksAsTold 2 = .ok (.iload_n 2, 1) := by decide +kernel
theorem dX0_breaksAsTold_3 : decode cX0_breaksAsTold 3 = .ok (.iconst 0, 1) := by decide +kernel
theorem dX0_breaksAsTold_4 : decode cX0_breaksAsTold 4 = .ok (.invokevirtual 80, 3) := by decide +kernel
theorem dX0_breaksAsTold_7 : decode cX0_breaksAsTold 7 = .ok (.aload_n 0, 1) := by decide +kernel
theorem dX0_breaksAsTold_8 : decode cX0_breaksAsTold 8 = .ok (.getfield 21, 3) := by decide +kernel
theorem dX0_breaksAsTold_11 : decode cX0_breaksAsTold 11 = .ok (.iload_n 2, 1) := by decide +kernel
theorem dX0_breaksAsTold_12 : decode cX0_breaksAsTold 12 = .ok (.iaload, 1) := by decide +kernel
theorem dX0_breaksAsTold_13 : decode cX0_breaksAsTold 13 = .ok (.if_icmp .ne 23, 3) := by decide +kernel
theorem dX0_breaksAsTold_16 : decode cX0_breaksAsTold 16 = .ok (.aload_n 0, 1) := by decide +kernel
theorem dX0_breaksAsTold_17 : decode cX0_breaksAsTold 17 = .ok (.iload_n 1, 1) := by decide +kernel
theorem dX0_breaksAsTold_18 : decode cX0_breaksAsTold 18 = .ok (.iload_n 2, 1) := by decide +kernel
theorem dX0_breaksAsTold_19 : decode cX0_breaksAsTold 19 = .ok (.iconst 1, 1) := by decide +kernel
theorem dX0_breaksAsTold_20 : decode cX0_breaksAsTold 20 = .ok (.invokevirtual 80, 3) := by decide +kernel
theorem dX0_breaksAsTold_23 : decode cX0_breaksAsTold 23 = .ok (.aload_n 0, 1) := by decide +kernel
theorem dX0_breaksAsTold_24 : decode cX0_breaksAsTold 24 = .ok (.getfield 24, 3) := by decide +kernel
theorem dX0_breaksAsTold_27 : decode cX0_breaksAsTold 27 = .ok (.iload_n 2, 1) := by decide +kernel
theorem dX0_breaksAsTold_28 : decode cX0_breaksAsTold 28 = .ok (.iaload, 1) := by decide +kernel
theorem dX0_breaksAsTold_29 : decode cX0_breaksAsTold 29 = .ok (.if_icmp .ne 7, 3) := by decide +kernel
theorem dX0_breaksAsTold_32 : decode cX0_breaksAsTold 32 = .ok (.iconst 1, 1) := by decide +kernel
theorem dX0_breaksAsTold_33 : decode cX0_breaksAsTold 33 = .ok (.goto 4, 3) := by decide +kernel
theorem dX0_breaksAsTold_36 : decode cX0_breaksAsTold 36 = .ok (.iconst 0, 1) := by decide +kernel
theorem dX0_breaksAsTold_37 : decode cX0_breaksAsTold 37 = .ok (.ireturn, 1) := by decide +kernel
theorem dX0_stormsThatFit_0 : decode cX0_stormsThatFit 0 = .ok (.iconst 0, 1) := by decide +kernel
theorem dX0_stormsThatFit_1 : decode cX0_stormsThatFit 1 = .ok (.istore_n 1, 1) := by decide +kernel
theorem dX0_stormsThatFit_2 : decode cX0_stormsThatFit 2 = .ok (.iconst 0, 1) := by decide +kernel
theorem dX0_stormsThatFit_3 : decode cX0_stormsThatFit 3 = .ok (.istore_n 2, 1) := by decide +kernel
theorem dX0_stormsThatFit_4 : decode cX0_stormsThatFit 4 = .ok (.iload_n 2, 1) := by decide +kernel
theorem dX0_stormsThatFit_5 : decode cX0_stormsThatFit 5 = .ok (.aload_n 0, 1) := by decide +kernel
theorem dX0_stormsThatFit_6 : decode cX0_stormsThatFit 6 = .ok (.getfield 49, 3) := by decide +kernel
theorem dX0_stormsThatFit_9 : decode cX0_stormsThatFit 9 = .ok (.if_icmp .ge 68, 3) := by decide +kernel
theorem dX0_stormsThatFit_12 : decode cX0_stormsThatFit 12 = .ok (.iconst 1, 1) := by decide +kernel
theorem dX0_stormsThatFit_13 : decode cX0_stormsThatFit 13 = .ok (.istore_n 3, 1) := by decide +kernel
theorem dX0_stormsThatFit_14 : decode cX0_stormsThatFit 14 = .ok (.iconst 0, 1) := by decide +kernel
theorem dX0_stormsThatFit_15 : decode cX0_stormsThatFit 15 = .ok (.istore 4, 2) := by decide +kernel
theorem dX0_stormsThatFit_17 : decode cX0_stormsThatFit 17 = .ok (.iload 4, 2) := by decide +kernel
theorem dX0_stormsThatFit_19 : decode cX0_stormsThatFit 19 = .ok (.aload_n 0, 1) := by decide +kernel
theorem dX0_stormsThatFit_20 : decode cX0_stormsThatFit 20 = .ok (.getfield 45, 3) := by decide +kernel
theorem dX0_stormsThatFit_23 : decode cX0_stormsThatFit 23 = .ok (.if_icmp .ge 38, 3) := by decide +kernel
theorem dX0_stormsThatFit_26 : decode cX0_stormsThatFit 26 = .ok (.iload_n 3, 1) := by decide +kernel
theorem dX0_stormsThatFit_27 : decode cX0_stormsThatFit 27 = .ok (.ifCond .eq 26, 3) := by decide +kernel
theorem dX0_stormsThatFit_30 : decode cX0_stormsThatFit 30 = .ok (.aload_n 0, 1) := by decide +kernel
theorem dX0_stormsThatFit_31 : decode cX0_stormsThatFit 31 = .ok (.iload 4, 2) := by decide +kernel
theorem dX0_stormsThatFit_33 : decode cX0_stormsThatFit 33 = .ok (.invokevirtual 97, 3) := by decide +kernel
theorem dX0_stormsThatFit_36 : decode cX0_stormsThatFit 36 = .ok (.ifCond .eq 13, 3) := by decide +kernel
theorem dX0_stormsThatFit_39 : decode cX0_stormsThatFit 39 = .ok (.aload_n 0, 1) := by decide +kernel
theorem dX0_stormsThatFit_40 : decode cX0_stormsThatFit 40 = .ok (.iload_n 2, 1) := by decide +kernel
theorem dX0_stormsThatFit_41 : decode cX0_stormsThatFit 41 = .ok (.iload 4, 2) := by decide +kernel
theorem dX0_stormsThatFit_43 : decode cX0_stormsThatFit 43 = .ok (.invokevirtual 101, 3) := by decide +kernel
theorem dX0_stormsThatFit_46 : decode cX0_stormsThatFit 46 = .ok (.ifCond .eq 7, 3) := by decide +kernel
theorem dX0_stormsThatFit_49 : decode cX0_stormsThatFit 49 = .ok (.iconst 1, 1) := by decide +kernel
theorem dX0_stormsThatFit_50 : decode cX0_stormsThatFit 50 = .ok (.goto 4, 3) := by decide +kernel
theorem dX0_stormsThatFit_53 : decode cX0_stormsThatFit 53 = .ok (.iconst 0, 1) := by decide +kernel
theorem dX0_stormsThatFit_54 : decode cX0_stormsThatFit 54 = .ok (.istore_n 3, 1) := by decide +kernel
theorem dX0_stormsThatFit_55 : decode cX0_stormsThatFit 55 = .ok (.iinc 4 1, 3) := by decide +kernel
theorem dX0_stormsThatFit_58 : decode cX0_stormsThatFit 58 = .ok (.goto (-41), 3) := by decide +kernel
theorem dX0_stormsThatFit_61 : decode cX0_stormsThatFit 61 = .ok (.iload_n 3, 1) := by decide +kernel
theorem dX0_stormsThatFit_62 : decode cX0_stormsThatFit 62 = .ok (.ifCond .eq 9, 3) := by decide +kernel
theorem dX0_stormsThatFit_65 : decode cX0_stormsThatFit 65 = .ok (.iload_n 1, 1) := by decide +kernel
theorem dX0_stormsThatFit_66 : decode cX0_stormsThatFit 66 = .ok (.iconst 1, 1) := by decide +kernel
theorem dX0_stormsThatFit_67 : decode cX0_stormsThatFit 67 = .ok (.iload_n 2, 1) := by decide +kernel
theorem dX0_stormsThatFit_68 : decode cX0_stormsThatFit 68 = .ok (.ishl, 1) := by decide +kernel
theorem dX0_stormsThatFit_69 : decode cX0_stormsThatFit 69 = .ok (.ior, 1) := by decide +kernel
theorem dX0_stormsThatFit_70 : decode cX0_stormsThatFit 70 = .ok (.istore_n 1, 1) := by decide +kernel
theorem dX0_stormsThatFit_71 : decode cX0_stormsThatFit 71 = .ok (.iinc 2 1, 3) := by decide +kernel
theorem dX0_stormsThatFit_74 : decode cX0_stormsThatFit 74 = .ok (.goto (-70), 3) := by decide +kernel
theorem dX0_stormsThatFit_77 : decode cX0_stormsThatFit 77 = .ok (.iload_n 1, 1) := by decide +kernel
theorem dX0_stormsThatFit_78 : decode cX0_stormsThatFit 78 = .ok (.ireturn, 1) := by decide +kernel
theorem dX0_roofsByHand_0 : decode cX0_roofsByHand 0 = .ok (.iconst 0, 1) := by decide +kernel
theorem dX0_roofsByHand_1 : decode cX0_roofsByHand 1 = .ok (.istore_n 1, 1) := by decide +kernel
theorem dX0_roofsByHand_2 : decode cX0_roofsByHand 2 = .ok (.iconst 0, 1) := by decide +kernel
theorem dX0_roofsByHand_3 : decode cX0_roofsByHand 3 = .ok (.istore_n 2, 1) := by decide +kernel
theorem dX0_roofsByHand_4 : decode cX0_roofsByHand 4 = .ok (.iload_n 2, 1) := by decide +kernel
theorem dX0_roofsByHand_5 : decode cX0_roofsByHand 5 = .ok (.aload_n 0, 1) := by decide +kernel
theorem dX0_roofsByHand_6 : decode cX0_roofsByHand 6 = .ok (.getfield 45, 3) := by decide +kernel
theorem dX0_roofsByHand_9 : decode cX0_roofsByHand 9 = .ok (.if_icmp .ge 63, 3) := by decide +kernel
theorem dX0_roofsByHand_12 : decode cX0_roofsByHand 12 = .ok (.aload_n 0, 1) := by decide +kernel
theorem dX0_roofsByHand_13 : decode cX0_roofsByHand 13 = .ok (.iload_n 2, 1) := by decide +kernel
theorem dX0_roofsByHand_14 : decode cX0_roofsByHand 14 = .ok (.invokevirtual 97, 3) := by decide +kernel
theorem dX0_roofsByHand_17 : decode cX0_roofsByHand 17 = .ok (.istore_n 3, 1) := by decide +kernel
theorem dX0_roofsByHand_18 : decode cX0_roofsByHand 18 = .ok (.iconst 0, 1) := by decide +kernel
theorem dX0_roofsByHand_19 : decode cX0_roofsByHand 19 = .ok (.istore 4, 2) := by decide +kernel
theorem dX0_roofsByHand_21 : decode cX0_roofsByHand 21 = .ok (.iload 4, 2) := by decide +kernel
theorem dX0_roofsByHand_23 : decode cX0_roofsByHand 23 = .ok (.aload_n 0, 1) := by decide +kernel
theorem dX0_roofsByHand_24 : decode cX0_roofsByHand 24 = .ok (.getfield 49, 3) := by decide +kernel
theorem dX0_roofsByHand_27 : decode cX0_roofsByHand 27 = .ok (.if_icmp .ge 29, 3) := by decide +kernel
theorem dX0_roofsByHand_30 : decode cX0_roofsByHand 30 = .ok (.iload_n 3, 1) := by decide +kernel
theorem dX0_roofsByHand_31 : decode cX0_roofsByHand 31 = .ok (.ifCond .eq 17, 3) := by decide +kernel
theorem dX0_roofsByHand_34 : decode cX0_roofsByHand 34 = .ok (.aload_n 0, 1) := by decide +kernel
theorem dX0_roofsByHand_35 : decode cX0_roofsByHand 35 = .ok (.iload 4, 2) := by decide +kernel
theorem dX0_roofsByHand_37 : decode cX0_roofsByHand 37 = .ok (.iload_n 2, 1) := by decide +kernel
theorem dX0_roofsByHand_38 : decode cX0_roofsByHand 38 = .ok (.invokevirtual 101, 3) := by decide +kernel
theorem dX0_roofsByHand_41 : decode cX0_roofsByHand 41 = .ok (.ifCond .ne 7, 3) := by decide +kernel
theorem dX0_roofsByHand_44 : decode cX0_roofsByHand 44 = .ok (.iconst 1, 1) := by decide +kernel
theorem dX0_roofsByHand_45 : decode cX0_roofsByHand 45 = .ok (.goto 4, 3) := by decide +kernel
theorem dX0_roofsByHand_48 : decode cX0_roofsByHand 48 = .ok (.iconst 0, 1) := by decide +kernel
theorem dX0_roofsByHand_49 : decode cX0_roofsByHand 49 = .ok (.istore_n 3, 1) := by decide +kernel
theorem dX0_roofsByHand_50 : decode cX0_roofsByHand 50 = .ok (.iinc 4 1, 3) := by decide +kernel
theorem dX0_roofsByHand_53 : decode cX0_roofsByHand 53 = .ok (.goto (-32), 3) := by decide +kernel
theorem dX0_roofsByHand_56 : decode cX0_roofsByHand 56 = .ok (.iload_n 3, 1) := by decide +kernel
theorem dX0_roofsByHand_57 : decode cX0_roofsByHand 57 = .ok (.ifCond .eq 9, 3) := by decide +kernel
theorem dX0_roofsByHand_60 : decode cX0_roofsByHand 60 = .ok (.iload_n 1, 1) := by decide +kernel
theorem dX0_roofsByHand_61 : decode cX0_roofsByHand 61 = .ok (.iconst 1, 1) := by decide +kernel
theorem dX0_roofsByHand_62 : decode cX0_roofsByHand 62 = .ok (.iload_n 2, 1) := by decide +kernel
theorem dX0_roofsByHand_63 : decode cX0_roofsByHand 63 = .ok (.ishl, 1) := by decide +kernel
theorem dX0_roofsByHand_64 : decode cX0_roofsByHand 64 = .ok (.ior, 1) := by decide +kernel
theorem dX0_roofsByHand_65 : decode cX0_roofsByHand 65 = .ok (.istore_n 1, 1) := by decide +kernel
theorem dX0_roofsByHand_66 : decode cX0_roofsByHand 66 = .ok (.iinc 2 1, 3) := by decide +kernel
theorem dX0_roofsByHand_69 : decode cX0_roofsByHand 69 = .ok (.goto (-65), 3) := by decide +kernel
theorem dX0_roofsByHand_72 : decode cX0_roofsByHand 72 = .ok (.iload_n 1, 1) := by decide +kernel
theorem dX0_roofsByHand_73 : decode cX0_roofsByHand 73 = .ok (.ireturn, 1) := by decide +kernel
theorem dX0_passYear_0 : decode cX0_passYear 0 = .ok (.iconst 0, 1) := by decide +kernel
theorem dX0_passYear_1 : decode cX0_passYear 1 = .ok (.istore_n 2, 1) := by decide +kernel
theorem dX0_passYear_2 : decode cX0_passYear 2 = .ok (.iconst 0, 1) := by decide +kernel
theorem dX0_passYear_3 : decode cX0_passYear 3 = .ok (.istore_n 3, 1) := by decide +kernel
theorem dX0_passYear_4 : decode cX0_passYear 4 = .ok (.iload_n 3, 1) := by decide +kernel
theorem dX0_passYear_5 : decode cX0_passYear 5 = .ok (.aload_n 0, 1) := by decide +kernel
theorem dX0_passYear_6 : decode cX0_passYear 6 = .ok (.getfield 45, 3) := by decide +kernel
theorem dX0_passYear_9 : decode cX0_passYear 9 = .ok (.if_icmp .ge 51, 3) := by decide +kernel
theorem dX0_passYear_12 : decode cX0_passYear 12 = .ok (.iload_n 1, 1) := by decide +kernel
theorem dX0_passYear_13 : decode cX0_passYear 13 = .ok (.iconst (-1), 1) := by decide +kernel
theorem dX0_passYear_14 : decode cX0_passYear 14 = .ok (.if_icmp .eq 21, 3) := by decide +kernel
theorem dX0_passYear_17 : decode cX0_passYear 17 = .ok (.iload_n 2, 1) := by decide +kernel
theorem dX0_passYear_18 : decode cX0_passYear 18 = .ok (.aload_n 0, 1) := by decide +kernel
theorem dX0_passYear_19 : decode cX0_passYear 19 = .ok (.iload_n 1, 1) := by decide +kernel
theorem dX0_passYear_20 : decode cX0_passYear 20 = .ok (.iload_n 3, 1) := by decide +kernel
theorem dX0_passYear_21 : decode cX0_passYear 21 = .ok (.iconst 0, 1) := by decide +kernel
theorem dX0_passYear_22 : decode cX0_passYear 22 = .ok (.invokevirtual 105, 3) := by decide +kernel
theorem dX0_passYear_25 : decode cX0_passYear 25 = .ok (.aload_n 0, 1) := by decide +kernel
theorem dX0_passYear_26 : decode cX0_passYear 26 = .ok (.iload_n 1, 1) := by decide +kernel
theorem dX0_passYear_27 : decode cX0_passYear 27 = .ok (.iload_n 3, 1) := by decide +kernel
theorem dX0_passYear_28 : decode cX0_passYear 28 = .ok (.iconst 1, 1) := by decide +kernel
theorem dX0_passYear_29 : decode cX0_passYear 29 = .ok (.invokevirtual 105, 3) := by decide +kernel
theorem dX0_passYear_32 : decode cX0_passYear 32 = .ok (.iadd, 1) := by decide +kernel
theorem dX0_passYear_33 : decode cX0_passYear 33 = .ok (.iadd, 1) := by decide +kernel
theorem dX0_passYear_34 : decode cX0_passYear 34 = .ok (.istore_n 2, 1) := by decide +kernel
theorem dX0_passYear_35 : decode cX0_passYear 35 = .ok (.aload_n 0, 1) := by decide +kernel
theorem dX0_passYear_36 : decode cX0_passYear 36 = .ok (.getfield 15, 3) := by decide +kernel
theorem dX0_passYear_39 : decode cX0_passYear 39 = .ok (.iload_n 3, 1) := by decide +kernel
theorem dX0_passYear_40 : decode cX0_passYear 40 = .ok (.aload_n 0, 1) := by decide +kernel
theorem dX0_passYear_41 : decode cX0_passYear 41 = .ok (.getfield 15, 3) := by decide +kernel
theorem dX0_passYear_44 : decode cX0_passYear 44 = .ok (.iload_n 3, 1) := by decide +kernel
theorem dX0_passYear_45 : decode cX0_passYear 45 = .ok (.iaload, 1) := by decide +kernel
theorem dX0_passYear_46 : decode cX0_passYear 46 = .ok (.iconst 1, 1) := by decide +kernel
theorem dX0_passYear_47 : decode cX0_passYear 47 = .ok (.iadd, 1) := by decide +kernel
theorem dX0_passYear_48 : decode cX0_passYear 48 = .ok (.bipush 9, 2) := by decide +kernel
theorem dX0_passYear_50 : decode cX0_passYear 50 = .ok (.invokestatic 77, 3) := by decide +kernel
theorem dX0_passYear_53 : decode cX0_passYear 53 = .ok (.iastore, 1) := by decide +kernel
theorem dX0_passYear_54 : decode cX0_passYear 54 = .ok (.iinc 3 1, 3) := by decide +kernel
theorem dX0_passYear_57 : decode cX0_passYear 57 = .ok (.goto (-53), 3) := by decide +kernel
theorem dX0_passYear_60 : decode cX0_passYear 60 = .ok (.aload_n 0, 1) := by decide +kernel
theorem dX0_passYear_61 : decode cX0_passYear 61 = .ok (.dup, 1) := by decide +kernel
theorem dX0_passYear_62 : decode cX0_passYear 62 = .ok (.getfield 52, 3) := by decide +kernel
theorem dX0_passYear_65 : decode cX0_passYear 65 = .ok (.iconst 1, 1) := by decide +kernel
theorem dX0_passYear_66 : decode cX0_passYear 66 = .ok (.iadd, 1) := by decide +kernel
theorem dX0_passYear_67 : decode cX0_passYear 67 = .ok (.putfield 52, 3) := by decide +kernel
theorem dX0_passYear_70 : decode cX0_passYear 70 = .ok (.iload_n 2, 1) := by decide +kernel
theorem dX0_passYear_71 : decode cX0_passYear 71 = .ok (.ireturn, 1) := by decide +kernel
theorem dX0_breakSlope_0 : decode cX0_breakSlope 0 = .ok (.aload_n 0, 1) := by decide +kernel
theorem dX0_breakSlope_1 : decode cX0_breakSlope 1 = .ok (.iload_n 1, 1) := by decide +kernel
theorem dX0_breakSlope_2 : decode cX0_breakSlope 2 = .ok (.iload_n 2, 1) := by decide +kernel
theorem dX0_breakSlope_3 : decode cX0_breakSlope 3 = .ok (.iload_n 3, 1) := by decide +kernel
theorem dX0_breakSlope_4 : decode cX0_breakSlope 4 = .ok (.invokevirtual 74, 3) := by decide +kernel
theorem dX0_breakSlope_7 : decode cX0_breakSlope 7 = .ok (.istore 4, 2) := by decide +kernel
theorem dX0_breakSlope_9 : decode cX0_breakSlope 9 = .ok (.iload_n 2, 1) := by decide +kernel
theorem dX0_breakSlope_10 : decode cX0_breakSlope 10 = .ok (.iload_n 3, 1) := by decide +kernel
theorem dX0_breakSlope_11 : decode cX0_breakSlope 11 = .ok (.iconst 0, 1) := by decide +kernel
theorem dX0_breakSlope_12 : decode cX0_breakSlope 12 = .ok (.invokestatic 61, 3) := by decide +kernel
theorem dX0_breakSlope_15 : decode cX0_breakSlope 15 = .ok (.istore 5, 2) := by decide +kernel
theorem dX0_breakSlope_17 : decode cX0_breakSlope 17 = .ok (.iload_n 2, 1) := by decide +kernel
theorem dX0_breakSlope_18 : decode cX0_breakSlope 18 = .ok (.iload_n 3, 1) := by decide +kernel
theorem dX0_breakSlope_19 : decode cX0_breakSlope 19 = .ok (.iconst 1, 1) := by decide +kernel
theorem dX0_breakSlope_20 : decode cX0_breakSlope 20 = .ok (.invokestatic 61, 3) := by decide +kernel
theorem dX0_breakSlope_23 : decode cX0_breakSlope 23 = .ok (.istore 6, 2) := by decide +kernel
theorem dX0_breakSlope_25 : decode cX0_breakSlope 25 = .ok (.iload 4, 2) := by decide +kernel
theorem dX0_breakSlope_27 : decode cX0_breakSlope 27 = .ok (.aload_n 0, 1) := by decide +kernel
theorem dX0_breakSlope_28 : decode cX0_breakSlope 28 = .ok (.getfield 18, 3) := by decide +kernel
theorem dX0_breakSlope_31 : decode cX0_breakSlope 31 = .ok (.iload 5, 2) := by decide +kernel
theorem dX0_breakSlope_33 : decode cX0_breakSlope 33 = .ok (.iaload, 1) := by decide +kernel
theorem dX0_breakSlope_34 : decode cX0_breakSlope 34 = .ok (.invokestatic 77, 3) := by decide +kernel
theorem dX0_breakSlope_37 : decode cX0_breakSlope 37 = .ok (.istore 7, 2) := by decide +kernel
theorem dX0_breakSlope_39 : decode cX0_breakSlope 39 = .ok (.iload 4, 2) := by decide +kernel
theorem dX0_breakSlope_41 : decode cX0_breakSlope 41 = .ok (.aload_n 0, 1) := by decide +kernel
theorem dX0_breakSlope_42 : decode cX0_breakSlope 42 = .ok (.getfield 18, 3) := by decide +kernel
theorem dX0_breakSlope_45 : decode cX0_breakSlope 45 = .ok (.iload 6, 2) := by decide +kernel
theorem dX0_breakSlope_47 : decode cX0_breakSlope 47 = .ok (.iaload, 1) := by decide +kernel
theorem dX0_breakSlope_48 : decode cX0_breakSlope 48 = .ok (.invokestatic 77, 3) := by decide +kernel
theorem dX0_breakSlope_51 : decode cX0_breakSlope 51 = .ok (.istore 8, 2) := by decide +kernel
theorem dX0_breakSlope_53 : decode cX0_breakSlope 53 = .ok (.aload_n 0, 1) := by decide +kernel
theorem dX0_breakSlope_54 : decode cX0_breakSlope 54 = .ok (.getfield 18, 3) := by decide +kernel
theorem dX0_breakSlope_57 : decode cX0_breakSlope 57 = .ok (.iload 5, 2) := by decide +kernel
theorem dX0_breakSlope_59 : decode cX0_breakSlope 59 = .ok (.dup2, 1) := by decide +kernel
theorem dX0_breakSlope_60 : decode cX0_breakSlope 60 = .ok (.iaload, 1) := by decide +kernel
theorem dX0_breakSlope_61 : decode cX0_breakSlope 61 = .ok (.iload 7, 2) := by decide +kernel
theorem dX0_breakSlope_63 : decode cX0_breakSlope 63 = .ok (.isub, 1) := by decide +kernel
theorem dX0_breakSlope_64 : decode cX0_breakSlope 64 = .ok (.iastore, 1) := by decide +kernel
theorem dX0_breakSlope_65 : decode cX0_breakSlope 65 = .ok (.aload_n 0, 1) := by decide +kernel
theorem dX0_breakSlope_66 : decode cX0_breakSlope 66 = .ok (.getfield 18, 3) := by decide +kernel
theorem dX0_breakSlope_69 : decode cX0_breakSlope 69 = .ok (.iload 6, 2) := by decide +kernel
theorem dX0_breakSlope_71 : decode cX0_breakSlope 71 = .ok (.dup2, 1) := by decide +kernel
theorem dX0_breakSlope_72 : decode cX0_breakSlope 72 = .ok (.iaload, 1) := by decide +kernel
theorem dX0_breakSlope_73 : decode cX0_breakSlope 73 = .ok (.iload 8, 2) := by decide +kernel
theorem dX0_breakSlope_75 : decode cX0_breakSlope 75 = .ok (.isub, 1) := by decide +kernel
theorem dX0_breakSlope_76 : decode cX0_breakSlope 76 = .ok (.iastore, 1) := by decide +kernel
theorem dX0_breakSlope_77 : decode cX0_breakSlope 77 = .ok (.iload 7, 2) := by decide +kernel
theorem dX0_breakSlope_79 : decode cX0_breakSlope 79 = .ok (.iload 8, 2) := by decide +kernel
theorem dX0_breakSlope_81 : decode cX0_breakSlope 81 = .ok (.iadd, 1) := by decide +kernel
theorem dX0_breakSlope_82 : decode cX0_breakSlope 82 = .ok (.ireturn, 1) := by decide +kernel
theorem dX0_stormAt_0 : decode cX0_stormAt 0 = .ok (.lconst 0, 1) := by decide +kernel
theorem dX0_stormAt_1 : decode cX0_stormAt 1 = .ok (.lstore_n 3, 1) := by decide +kernel
theorem dX0_stormAt_2 : decode cX0_stormAt 2 = .ok (.iconst 0, 1) := by decide +kernel
theorem dX0_stormAt_3 : decode cX0_stormAt 3 = .ok (.istore 5, 2) := by decide +kernel
theorem dX0_stormAt_5 : decode cX0_stormAt 5 = .ok (.iload 5, 2) := by decide +kernel
theorem dX0_stormAt_7 : decode cX0_stormAt 7 = .ok (.aload_n 0, 1) := by decide +kernel
theorem dX0_stormAt_8 : decode cX0_stormAt 8 = .ok (.getfield 49, 3) := by decide +kernel
theorem dX0_stormAt_11 : decode cX0_stormAt 11 = .ok (.if_icmp .ge 29, 3) := by decide +kernel
theorem dX0_stormAt_14 : decode cX0_stormAt 14 = .ok (.lload_n 3, 1) := by decide +kernel
theorem dX0_stormAt_15 : decode cX0_stormAt 15 = .ok (.aload_n 0, 1) := by decide +kernel
theorem dX0_stormAt_16 : decode cX0_stormAt 16 = .ok (.getfield 39, 3) := by decide +kernel
theorem dX0_stormAt_19 : decode cX0_stormAt 19 = .ok (.iload 5, 2) := by decide +kernel
theorem dX0_stormAt_21 : decode cX0_stormAt 21 = .ok (.iaload, 1) := by decide +kernel
theorem dX0_stormAt_22 : decode cX0_stormAt 22 = .ok (.i2l, 1) := by decide +kernel
theorem dX0_stormAt_23 : decode cX0_stormAt 23 = .ok (.ladd, 1) := by decide +kernel
theorem dX0_stormAt_24 : decode cX0_stormAt 24 = .ok (.lstore_n 3, 1) := by decide +kernel
theorem dX0_stormAt_25 : decode cX0_stormAt 25 = .ok (.lload_n 3, 1) := by decide +kernel
theorem dX0_stormAt_26 : decode cX0_stormAt 26 = .ok (.lload_n 1, 1) := by decide +kernel
theorem dX0_stormAt_27 : decode cX0_stormAt 27 = .ok (.lcmp, 1) := by decide +kernel
theorem dX0_stormAt_28 : decode cX0_stormAt 28 = .ok (.ifCond .le 6, 3) := by decide +kernel
theorem dX0_stormAt_31 : decode cX0_stormAt 31 = .ok (.iload 5, 2) := by decide +kernel
theorem dX0_stormAt_33 : decode cX0_stormAt 33 = .ok (.ireturn, 1) := by decide +kernel
theorem dX0_stormAt_34 : decode cX0_stormAt 34 = .ok (.iinc 5 1, 3) := by decide +kernel
theorem dX0_stormAt_37 : decode cX0_stormAt 37 = .ok (.goto (-32), 3) := by decide +kernel
theorem dX0_stormAt_40 : decode cX0_stormAt 40 = .ok (.iconst (-1), 1) := by decide +kernel
theorem dX0_stormAt_41 : decode cX0_stormAt 41 = .ok (.ireturn, 1) := by decide +kernel
theorem dX0_mixRoofs_0 : decode cX0_mixRoofs 0 = .ok (.iconst 0, 1) := by decide +kernel
theorem dX0_mixRoofs_1 : decode cX0_mixRoofs 1 = .ok (.istore_n 3, 1) := by decide +kernel
theorem dX0_mixRoofs_2 : decode cX0_mixRoofs 2 = .ok (.iload_n 3, 1) := by decide +kernel
theorem dX0_mixRoofs_3 : decode cX0_mixRoofs 3 = .ok (.aload_n 0, 1) := by decide +kernel
theorem dX0_mixRoofs_4 : decode cX0_mixRoofs 4 = .ok (.getfield 45, 3) := by decide +kernel
theorem dX0_mixRoofs_7 : decode cX0_mixRoofs 7 = .ok (.if_icmp .ge 99, 3) := by decide +kernel
theorem dX0_mixRoofs_10 : decode cX0_mixRoofs 10 = .ok (.ldc2_w 108, 3) := by decide +kernel
theorem dX0_mixRoofs_13 : decode cX0_mixRoofs 13 = .ok (.lload_n 1, 1) := by decide +kernel
theorem dX0_mixRoofs_14 : decode cX0_mixRoofs 14 = .ok (.lmul, 1) := by decide +kernel
theorem dX0_mixRoofs_15 : decode cX0_mixRoofs 15 = .ok (.aload_n 0, 1) := by decide +kernel
theorem dX0_mixRoofs_16 : decode cX0_mixRoofs 16 = .ok (.getfield 9, 3) := by decide +kernel
theorem dX0_mixRoofs_19 : decode cX0_mixRoofs 19 = .ok (.iload_n 3, 1) := by decide +kernel
theorem dX0_mixRoofs_20 : decode cX0_mixRoofs 20 = .ok (.iaload, 1) := by decide +kernel
theorem dX0_mixRoofs_21 : decode cX0_mixRoofs 21 = .ok (.i2l, 1) := by decide +kernel
theorem dX0_mixRoofs_22 : decode cX0_mixRoofs 22 = .ok (.ladd, 1) := by decide +kernel
theorem dX0_mixRoofs_23 : decode cX0_mixRoofs 23 = .ok (.lstore_n 1, 1) := by decide +kernel
theorem dX0_mixRoofs_24 : decode cX0_mixRoofs 24 = .ok (.ldc2_w 108, 3) := by decide +kernel
theorem dX0_mixRoofs_27 : decode cX0_mixRoofs 27 = .ok (.lload_n 1, 1) := by decide +kernel
theorem dX0_mixRoofs_28 : decode cX0_mixRoofs 28 = .ok (.lmul, 1) := by decide +kernel
theorem dX0_mixRoofs_29 : decode cX0_mixRoofs 29 = .ok (.aload_n 0, 1) := by decide +kernel
theorem dX0_mixRoofs_30 : decode cX0_mixRoofs 30 = .ok (.getfield 15, 3) := by decide +kernel
theorem dX0_mixRoofs_33 : decode cX0_mixRoofs 33 = .ok (.iload_n 3, 1) := by decide +kernel
theorem dX0_mixRoofs_34 : decode cX0_mixRoofs 34 = .ok (.iaload, 1) := by decide +kernel
theorem dX0_mixRoofs_35 : decode cX0_mixRoofs 35 = .ok (.i2l, 1) := by decide +kernel
theorem dX0_mixRoofs_36 : decode cX0_mixRoofs 36 = .ok (.ladd, 1) := by decide +kernel
theorem dX0_mixRoofs_37 : decode cX0_mixRoofs 37 = .ok (.lstore_n 1, 1) := by decide +kernel
theorem dX0_mixRoofs_38 : decode cX0_mixRoofs 38 = .ok (.iconst 0, 1) := by decide +kernel
theorem dX0_mixRoofs_39 : decode cX0_mixRoofs 39 = .ok (.istore 4, 2) := by decide +kernel
theorem dX0_mixRoofs_41 : decode cX0_mixRoofs 41 = .ok (.iload 4, 2) := by decide +kernel
theorem dX0_mixRoofs_43 : decode cX0_mixRoofs 43 = .ok (.iconst 4, 1) := by decide +kernel
theorem dX0_mixRoofs_44 : decode cX0_mixRoofs 44 = .ok (.if_icmp .ge 28, 3) := by decide +kernel
theorem dX0_mixRoofs_47 : decode cX0_mixRoofs 47 = .ok (.ldc2_w 108, 3) := by decide +kernel
theorem dX0_mixRoofs_50 : decode cX0_mixRoofs 50 = .ok (.lload_n 1, 1) := by decide +kernel
theorem dX0_mixRoofs_51 : decode cX0_mixRoofs 51 = .ok (.lmul, 1) := by decide +kernel
theorem dX0_mixRoofs_52 : decode cX0_mixRoofs 52 = .ok (.aload_n 0, 1) := by decide +kernel
theorem dX0_mixRoofs_53 : decode cX0_mixRoofs 53 = .ok (.getfield 18, 3) := by decide +kernel
theorem dX0_mixRoofs_56 : decode cX0_mixRoofs 56 = .ok (.iconst 4, 1) := by decide +kernel
theorem dX0_mixRoofs_57 : decode cX0_mixRoofs 57 = .ok (.iload_n 3, 1) := by decide +kernel
theorem dX0_mixRoofs_58 : decode cX0_mixRoofs 58 = .ok (.imul, 1) := by decide +kernel
theorem dX0_mixRoofs_59 : decode cX0_mixRoofs 59 = .ok (.iload 4, 2) := by decide +kernel
theorem dX0_mixRoofs_61 : decode cX0_mixRoofs 61 = .ok (.iadd, 1) := by decide +kernel
theorem dX0_mixRoofs_62 : decode cX0_mixRoofs 62 = .ok (.iaload, 1) := by decide +kernel
theorem dX0_mixRoofs_63 : decode cX0_mixRoofs 63 = .ok (.i2l, 1) := by decide +kernel
theorem dX0_mixRoofs_64 : decode cX0_mixRoofs 64 = .ok (.ladd, 1) := by decide +kernel
theorem dX0_mixRoofs_65 : decode cX0_mixRoofs 65 = .ok (.lstore_n 1, 1) := by decide +kernel
theorem dX0_mixRoofs_66 : decode cX0_mixRoofs 66 = .ok (.iinc 4 1, 3) := by decide +kernel
theorem dX0_mixRoofs_69 : decode cX0_mixRoofs 69 = .ok (.goto (-28), 3) := by decide +kernel
theorem dX0_mixRoofs_72 : decode cX0_mixRoofs 72 = .ok (.ldc2_w 108, 3) := by decide +kernel
theorem dX0_mixRoofs_75 : decode cX0_mixRoofs 75 = .ok (.lload_n 1, 1) := by decide +kernel
theorem dX0_mixRoofs_76 : decode cX0_mixRoofs 76 = .ok (.lmul, 1) := by decide +kernel
theorem dX0_mixRoofs_77 : decode cX0_mixRoofs 77 = .ok (.aload_n 0, 1) := by decide +kernel
theorem dX0_mixRoofs_78 : decode cX0_mixRoofs 78 = .ok (.getfield 21, 3) := by decide +kernel
theorem dX0_mixRoofs_81 : decode cX0_mixRoofs 81 = .ok (.iload_n 3, 1) := by decide +kernel
theorem dX0_mixRoofs_82 : decode cX0_mixRoofs 82 = .ok (.iaload, 1) := by decide +kernel
theorem dX0_mixRoofs_83 : decode cX0_mixRoofs 83 = .ok (.i2l, 1) := by decide +kernel
theorem dX0_mixRoofs_84 : decode cX0_mixRoofs 84 = .ok (.ladd, 1) := by decide +kernel
theorem dX0_mixRoofs_85 : decode cX0_mixRoofs 85 = .ok (.lstore_n 1, 1) := by decide +kernel
theorem dX0_mixRoofs_86 : decode cX0_mixRoofs 86 = .ok (.ldc2_w 108, 3) := by decide +kernel
theorem dX0_mixRoofs_89 : decode cX0_mixRoofs 89 = .ok (.lload_n 1, 1) := by decide +kernel
theorem dX0_mixRoofs_90 : decode cX0_mixRoofs 90 = .ok (.lmul, 1) := by decide +kernel
theorem dX0_mixRoofs_91 : decode cX0_mixRoofs 91 = .ok (.aload_n 0, 1) := by decide +kernel
theorem dX0_mixRoofs_92 : decode cX0_mixRoofs 92 = .ok (.getfield 24, 3) := by decide +kernel
theorem dX0_mixRoofs_95 : decode cX0_mixRoofs 95 = .ok (.iload_n 3, 1) := by decide +kernel
theorem dX0_mixRoofs_96 : decode cX0_mixRoofs 96 = .ok (.iaload, 1) := by decide +kernel
theorem dX0_mixRoofs_97 : decode cX0_mixRoofs 97 = .ok (.i2l, 1) := by decide +kernel
theorem dX0_mixRoofs_98 : decode cX0_mixRoofs 98 = .ok (.ladd, 1) := by decide +kernel
theorem dX0_mixRoofs_99 : decode cX0_mixRoofs 99 = .ok (.lstore_n 1, 1) := by decide +kernel
theorem dX0_mixRoofs_100 : decode cX0_mixRoofs 100 = .ok (.iinc 3 1, 3) := by decide +kernel
theorem dX0_mixRoofs_103 : decode cX0_mixRoofs 103 = .ok (.goto (-101), 3) := by decide +kernel
theorem dX0_mixRoofs_106 : decode cX0_mixRoofs 106 = .ok (.lload_n 1, 1) := by decide +kernel
theorem dX0_mixRoofs_107 : decode cX0_mixRoofs 107 = .ok (.lreturn, 1) := by decide +kernel
theorem dX0_mixStorms_0 : decode cX0_mixStorms 0 = .ok (.iconst 0, 1) := by decide +kernel
theorem dX0_mixStorms_1 : decode cX0_mixStorms 1 = .ok (.istore_n 3, 1) := by decide +kernel
theorem dX0_mixStorms_2 : decode cX0_mixStorms 2 = .ok (.iload_n 3, 1) := by decide +kernel
theorem dX0_mixStorms_3 : decode cX0_mixStorms 3 = .ok (.aload_n 0, 1) := by decide +kernel
theorem dX0_mixStorms_4 : decode cX0_mixStorms 4 = .ok (.getfield 49, 3) := by decide +kernel
theorem dX0_mixStorms_7 : decode cX0_mixStorms 7 = .ok (.if_icmp .ge 79, 3) := by decide +kernel
theorem dX0_mixStorms_10 : decode cX0_mixStorms 10 = .ok (.ldc2_w 108, 3) := by decide +kernel
theorem dX0_mixStorms_13 : decode cX0_mixStorms 13 = .ok (.lload_n 1, 1) := by decide +kernel
theorem dX0_mixStorms_14 : decode cX0_mixStorms 14 = .ok (.lmul, 1) := by decide +kernel
theorem dX0_mixStorms_15 : decode cX0_mixStorms 15 = .ok (.aload_n 0, 1) := by decide +kernel
theorem dX0_mixStorms_16 : decode cX0_mixStorms 16 = .ok (.getfield 27, 3) := by decide +kernel
theorem dX0_mixStorms_19 : decode cX0_mixStorms 19 = .ok (.iload_n 3, 1) := by decide +kernel
theorem dX0_mixStorms_20 : decode cX0_mixStorms 20 = .ok (.iaload, 1) := by decide +kernel
theorem dX0_mixStorms_21 : decode cX0_mixStorms 21 = .ok (.i2l, 1) := by decide +kernel
theorem dX0_mixStorms_22 : decode cX0_mixStorms 22 = .ok (.ladd, 1) := by decide +kernel
theorem dX0_mixStorms_23 : decode cX0_mixStorms 23 = .ok (.lstore_n 1, 1) := by decide +kernel
theorem dX0_mixStorms_24 : decode cX0_mixStorms 24 = .ok (.ldc2_w 108, 3) := by decide +kernel
theorem dX0_mixStorms_27 : decode cX0_mixStorms 27 = .ok (.lload_n 1, 1) := by decide +kernel
theorem dX0_mixStorms_28 : decode cX0_mixStorms 28 = .ok (.lmul, 1) := by decide +kernel
theorem dX0_mixStorms_29 : decode cX0_mixStorms 29 = .ok (.aload_n 0, 1) := by decide +kernel
theorem dX0_mixStorms_30 : decode cX0_mixStorms 30 = .ok (.getfield 30, 3) := by decide +kernel
theorem dX0_mixStorms_33 : decode cX0_mixStorms 33 = .ok (.iload_n 3, 1) := by decide +kernel
theorem dX0_mixStorms_34 : decode cX0_mixStorms 34 = .ok (.iaload, 1) := by decide +kernel
theorem dX0_mixStorms_35 : decode cX0_mixStorms 35 = .ok (.i2l, 1) := by decide +kernel
theorem dX0_mixStorms_36 : decode cX0_mixStorms 36 = .ok (.ladd, 1) := by decide +kernel
theorem dX0_mixStorms_37 : decode cX0_mixStorms 37 = .ok (.lstore_n 1, 1) := by decide +kernel
theorem dX0_mixStorms_38 : decode cX0_mixStorms 38 = .ok (.ldc2_w 108, 3) := by decide +kernel
theorem dX0_mixStorms_41 : decode cX0_mixStorms 41 = .ok (.lload_n 1, 1) := by decide +kernel
theorem dX0_mixStorms_42 : decode cX0_mixStorms 42 = .ok (.lmul, 1) := by decide +kernel
theorem dX0_mixStorms_43 : decode cX0_mixStorms 43 = .ok (.aload_n 0, 1) := by decide +kernel
theorem dX0_mixStorms_44 : decode cX0_mixStorms 44 = .ok (.getfield 33, 3) := by decide +kernel
theorem dX0_mixStorms_47 : decode cX0_mixStorms 47 = .ok (.iload_n 3, 1) := by decide +kernel
theorem dX0_mixStorms_48 : decode cX0_mixStorms 48 = .ok (.iaload, 1) := by decide +kernel
theorem dX0_mixStorms_49 : decode cX0_mixStorms 49 = .ok (.i2l, 1) := by decide +kernel
theorem dX0_mixStorms_50 : decode cX0_mixStorms 50 = .ok (.ladd, 1) := by decide +kernel
theorem dX0_mixStorms_51 : decode cX0_mixStorms 51 = .ok (.lstore_n 1, 1) := by decide +kernel
theorem dX0_mixStorms_52 : decode cX0_mixStorms 52 = .ok (.ldc2_w 108, 3) := by decide +kernel
theorem dX0_mixStorms_55 : decode cX0_mixStorms 55 = .ok (.lload_n 1, 1) := by decide +kernel
theorem dX0_mixStorms_56 : decode cX0_mixStorms 56 = .ok (.lmul, 1) := by decide +kernel
theorem dX0_mixStorms_57 : decode cX0_mixStorms 57 = .ok (.aload_n 0, 1) := by decide +kernel
theorem dX0_mixStorms_58 : decode cX0_mixStorms 58 = .ok (.getfield 36, 3) := by decide +kernel
theorem dX0_mixStorms_61 : decode cX0_mixStorms 61 = .ok (.iload_n 3, 1) := by decide +kernel
theorem dX0_mixStorms_62 : decode cX0_mixStorms 62 = .ok (.iaload, 1) := by decide +kernel
theorem dX0_mixStorms_63 : decode cX0_mixStorms 63 = .ok (.i2l, 1) := by decide +kernel
theorem dX0_mixStorms_64 : decode cX0_mixStorms 64 = .ok (.ladd, 1) := by decide +kernel
theorem dX0_mixStorms_65 : decode cX0_mixStorms 65 = .ok (.lstore_n 1, 1) := by decide +kernel
theorem dX0_mixStorms_66 : decode cX0_mixStorms 66 = .ok (.ldc2_w 108, 3) := by decide +kernel
theorem dX0_mixStorms_69 : decode cX0_mixStorms 69 = .ok (.lload_n 1, 1) := by decide +kernel
theorem dX0_mixStorms_70 : decode cX0_mixStorms 70 = .ok (.lmul, 1) := by decide +kernel
theorem dX0_mixStorms_71 : decode cX0_mixStorms 71 = .ok (.aload_n 0, 1) := by decide +kernel
theorem dX0_mixStorms_72 : decode cX0_mixStorms 72 = .ok (.getfield 39, 3) := by decide +kernel
theorem dX0_mixStorms_75 : decode cX0_mixStorms 75 = .ok (.iload_n 3, 1) := by decide +kernel
theorem dX0_mixStorms_76 : decode cX0_mixStorms 76 = .ok (.iaload, 1) := by decide +kernel
theorem dX0_mixStorms_77 : decode cX0_mixStorms 77 = .ok (.i2l, 1) := by decide +kernel
theorem dX0_mixStorms_78 : decode cX0_mixStorms 78 = .ok (.ladd, 1) := by decide +kernel
theorem dX0_mixStorms_79 : decode cX0_mixStorms 79 = .ok (.lstore_n 1, 1) := by decide +kernel
theorem dX0_mixStorms_80 : decode cX0_mixStorms 80 = .ok (.iinc 3 1, 3) := by decide +kernel
theorem dX0_mixStorms_83 : decode cX0_mixStorms 83 = .ok (.goto (-81), 3) := by decide +kernel
theorem dX0_mixStorms_86 : decode cX0_mixStorms 86 = .ok (.lload_n 1, 1) := by decide +kernel
theorem dX0_mixStorms_87 : decode cX0_mixStorms 87 = .ok (.lreturn, 1) := by decide +kernel
theorem dX0_mixGuns_0 : decode cX0_mixGuns 0 = .ok (.iconst 0, 1) := by decide +kernel
theorem dX0_mixGuns_1 : decode cX0_mixGuns 1 = .ok (.istore_n 3, 1) := by decide +kernel
theorem dX0_mixGuns_2 : decode cX0_mixGuns 2 = .ok (.iload_n 3, 1) := by decide +kernel
theorem dX0_mixGuns_3 : decode cX0_mixGuns 3 = .ok (.bipush 7, 2) := by decide +kernel
theorem dX0_mixGuns_5 : decode cX0_mixGuns 5 = .ok (.if_icmp .ge 23, 3) := by decide +kernel
theorem dX0_mixGuns_8 : decode cX0_mixGuns 8 = .ok (.ldc2_w 108, 3) := by decide +kernel
theorem dX0_mixGuns_11 : decode cX0_mixGuns 11 = .ok (.lload_n 1, 1) := by decide +kernel
theorem dX0_mixGuns_12 : decode cX0_mixGuns 12 = .ok (.lmul, 1) := by decide +kernel
theorem dX0_mixGuns_13 : decode cX0_mixGuns 13 = .ok (.aload_n 0, 1) := by decide +kernel
theorem dX0_mixGuns_14 : decode cX0_mixGuns 14 = .ok (.getfield 42, 3) := by decide +kernel
theorem dX0_mixGuns_17 : decode cX0_mixGuns 17 = .ok (.iload_n 3, 1) := by decide +kernel
theorem dX0_mixGuns_18 : decode cX0_mixGuns 18 = .ok (.iaload, 1) := by decide +kernel
theorem dX0_mixGuns_19 : decode cX0_mixGuns 19 = .ok (.i2l, 1) := by decide +kernel
theorem dX0_mixGuns_20 : decode cX0_mixGuns 20 = .ok (.ladd, 1) := by decide +kernel
theorem dX0_mixGuns_21 : decode cX0_mixGuns 21 = .ok (.lstore_n 1, 1) := by decide +kernel
theorem dX0_mixGuns_22 : decode cX0_mixGuns 22 = .ok (.iinc 3 1, 3) := by decide +kernel
theorem dX0_mixGuns_25 : decode cX0_mixGuns 25 = .ok (.goto (-23), 3) := by decide +kernel
theorem dX0_mixGuns_28 : decode cX0_mixGuns 28 = .ok (.lload_n 1, 1) := by decide +kernel
theorem dX0_mixGuns_29 : decode cX0_mixGuns 29 = .ok (.lreturn, 1) := by decide +kernel
theorem dX1_init_0 : decode cX1_init 0 = .ok (.aload_n 0, 1) := by decide +kernel
theorem dX1_init_1 : decode cX1_init 1 = .ok (.invokespecial 1, 3) := by decide +kernel
theorem dX1_init_4 : decode cX1_init 4 = .ok (.aload_n 0, 1) := by decide +kernel
theorem dX1_init_5 : decode cX1_init 5 = .ok (.lconst 0, 1) := by decide +kernel
theorem dX1_init_6 : decode cX1_init 6 = .ok (.putfield 7, 3) := by decide +kernel
theorem dX1_init_9 : decode cX1_init 9 = .ok (.aload_n 0, 1) := by decide +kernel
theorem dX1_init_10 : decode cX1_init 10 = .ok (.lconst 1, 1) := by decide +kernel
theorem dX1_init_11 : decode cX1_init 11 = .ok (.putfield 13, 3) := by decide +kernel
theorem dX1_init_14 : decode cX1_init 14 = .ok (.return_, 1) := by decide +kernel
theorem dX1_become_0 : decode cX1_become 0 = .ok (.lload_n 1, 1) := by decide +kernel
theorem dX1_become_1 : decode cX1_become 1 = .ok (.invokestatic 16, 3) := by decide +kernel
theorem dX1_become_4 : decode cX1_become 4 = .ok (.lload_n 3, 1) := by decide +kernel
theorem dX1_become_5 : decode cX1_become 5 = .ok (.invokestatic 22, 3) := by decide +kernel
theorem dX1_become_8 : decode cX1_become 8 = .ok (.lstore 5, 2) := by decide +kernel
theorem dX1_become_10 : decode cX1_become 10 = .ok (.lload 5, 2) := by decide +kernel
theorem dX1_become_12 : decode cX1_become 12 = .ok (.lconst 0, 1) := by decide +kernel
theorem dX1_become_13 : decode cX1_become 13 = .ok (.lcmp, 1) := by decide +kernel
theorem dX1_become_14 : decode cX1_become 14 = .ok (.ifCond .gt 4, 3) := by decide +kernel
theorem dX1_become_17 : decode cX1_become 17 = .ok (.return_, 1) := by decide +kernel
theorem dX1_become_18 : decode cX1_become 18 = .ok (.aload_n 0, 1) := by decide +kernel
theorem dX1_become_19 : decode cX1_become 19 = .ok (.lload_n 1, 1) := by decide +kernel
theorem dX1_become_20 : decode cX1_become 20 = .ok (.lload 5, 2) := by decide +kernel
theorem dX1_become_22 : decode cX1_become 22 = .ok (.ldiv, 1) := by decide +kernel
theorem dX1_become_23 : decode cX1_become 23 = .ok (.putfield 7, 3) := by decide +kernel
theorem dX1_become_26 : decode cX1_become 26 = .ok (.aload_n 0, 1) := by decide +kernel
theorem dX1_become_27 : decode cX1_become 27 = .ok (.lload_n 3, 1) := by decide +kernel
theorem dX1_become_28 : decode cX1_become 28 = .ok (.lload 5, 2) := by decide +kernel
theorem dX1_become_30 : decode cX1_become 30 = .ok (.ldiv, 1) := by decide +kernel
theorem dX1_become_31 : decode cX1_become 31 = .ok (.putfield 13, 3) := by decide +kernel
theorem dX1_become_34 : decode cX1_become 34 = .ok (.return_, 1) := by decide +kernel
theorem dX1_greatestShared_0 : decode cX1_greatestShared 0 = .ok (.iconst 0, 1) := by decide +kernel
theorem dX1_greatestShared_1 : decode cX1_greatestShared 1 = .ok (.istore 4, 2) := by decide +kernel
theorem dX1_greatestShared_3 : decode cX1_greatestShared 3 = .ok (.iload 4, 2) := by decide +kernel
theorem dX1_greatestShared_5 : decode cX1_greatestShared 5 = .ok (.bipush 100, 2) := by decide +kernel
theorem dX1_greatestShared_7 : decode cX1_greatestShared 7 = .ok (.if_icmp .ge 25, 3) := by decide +kernel
theorem dX1_greatestShared_10 : decode cX1_greatestShared 10 = .ok (.lload_n 2, 1) := by decide +kernel
theorem dX1_greatestShared_11 : decode cX1_greatestShared 11 = .ok (.lconst 0, 1) := by decide +kernel
theorem dX1_greatestShared_12 : decode cX1_greatestShared 12 = .ok (.lcmp, 1) := by decide +kernel
theorem dX1_greatestShared_13 : decode cX1_greatestShared 13 = .ok (.ifCond .eq 19, 3) := by decide +kernel
theorem dX1_greatestShared_16 : decode cX1_greatestShared 16 = .ok (.lload_n 0, 1) := by decide +kernel
theorem dX1_greatestShared_17 : decode cX1_greatestShared 17 = .ok (.lload_n 2, 1) := by decide +kernel
theorem dX1_greatestShared_18 : decode cX1_greatestShared 18 = .ok (.lrem, 1) := by decide +kernel
theorem dX1_greatestShared_19 : decode cX1_greatestShared 19 = .ok (.lstore 5, 2) := by decide +kernel
theorem dX1_greatestShared_21 : decode cX1_greatestShared 21 = .ok (.lload_n 2, 1) := by decide +kernel
theorem dX1_greatestShared_22 : decode cX1_greatestShared 22 = .ok (.lstore_n 0, 1) := by decide +kernel
theorem dX1_greatestShared_23 : decode cX1_greatestShared 23 = .ok (.lload 5, 2) := by decide +kernel
theorem dX1_greatestShared_25 : decode cX1_greatestShared 25 = .ok (.lstore_n 2, 1) := by decide +kernel
theorem dX1_greatestShared_26 : decode cX1_greatestShared 26 = .ok (.iinc 4 1, 3) := by decide +kernel
theorem dX1_greatestShared_29 : decode cX1_greatestShared 29 = .ok (.goto (-26), 3) := by decide +kernel
theorem dX1_greatestShared_32 : decode cX1_greatestShared 32 = .ok (.lload_n 0, 1) := by decide +kernel
theorem dX1_greatestShared_33 : decode cX1_greatestShared 33 = .ok (.lreturn, 1) := by decide +kernel
theorem dX1_choose_0 : decode cX1_choose 0 = .ok (.lconst 1, 1) := by decide +kernel
theorem dX1_choose_1 : decode cX1_choose 1 = .ok (.lstore_n 2, 1) := by decide +kernel
theorem dX1_choose_2 : decode cX1_choose 2 = .ok (.iconst 0, 1) := by decide +kernel
theorem dX1_choose_3 : decode cX1_choose 3 = .ok (.istore 4, 2) := by decide +kernel
theorem dX1_choose_5 : decode cX1_choose 5 = .ok (.iload 4, 2) := by decide +kernel
theorem dX1_choose_7 : decode cX1_choose 7 = .ok (.iload_n 1, 1) := by decide +kernel
theorem dX1_choose_8 : decode cX1_choose 8 = .ok (.if_icmp .ge 23, 3) := by decide +kernel
theorem dX1_choose_11 : decode cX1_choose 11 = .ok (.lload_n 2, 1) := by decide +kernel
theorem dX1_choose_12 : decode cX1_choose 12 = .ok (.iload_n 0, 1) := by decide +kernel
theorem dX1_choose_13 : decode cX1_choose 13 = .ok (.iload 4, 2) := by decide +kernel
theorem dX1_choose_15 : decode cX1_choose 15 = .ok (.isub, 1) := by decide +kernel
theorem dX1_choose_16 : decode cX1_choose 16 = .ok (.i2l, 1) := by decide +kernel
theorem dX1_choose_17 : decode cX1_choose 17 = .ok (.lmul, 1) := by decide +kernel
theorem dX1_choose_18 : decode cX1_choose 18 = .ok (.iload 4, 2) := by decide +kernel
theorem dX1_choose_20 : decode cX1_choose 20 = .ok (.iconst 1, 1) := by decide +kernel
theorem dX1_choose_21 : decode cX1_choose 21 = .ok (.iadd, 1) := by decide +kernel
theorem dX1_choose_22 : decode cX1_choose 22 = .ok (.i2l, 1) := by decide +kernel
theorem dX1_choose_23 : decode cX1_choose 23 = .ok (.ldiv, 1) := by decide +kernel
theorem dX1_choose_24 : decode cX1_choose 24 = .ok (.lstore_n 2, 1) := by decide +kernel
theorem dX1_choose_25 : decode cX1_choose 25 = .ok (.iinc 4 1, 3) := by decide +kernel
theorem dX1_choose_28 : decode cX1_choose 28 = .ok (.goto (-23), 3) := by decide +kernel
theorem dX1_choose_31 : decode cX1_choose 31 = .ok (.lload_n 2, 1) := by decide +kernel
theorem dX1_choose_32 : decode cX1_choose 32 = .ok (.lreturn, 1) := by decide +kernel
theorem dX2_init_0 : decode cX2_init 0 = .ok (.aload_n 0, 1) := by decide +kernel
theorem dX2_init_1 : decode cX2_init 1 = .ok (.invokespecial 3, 3) := by decide +kernel
theorem dX2_init_4 : decode cX2_init 4 = .ok (.aload_n 0, 1) := by decide +kernel
theorem dX2_init_5 : decode cX2_init 5 = .ok (.sipush 250, 3) := by decide +kernel
theorem dX2_init_8 : decode cX2_init 8 = .ok (.newarray .int, 2) := by decide +kernel
theorem dX2_init_10 : decode cX2_init 10 = .ok (.putfield 9, 3) := by decide +kernel
theorem dX2_init_13 : decode cX2_init 13 = .ok (.aload_n 0, 1) := by decide +kernel
theorem dX2_init_14 : decode cX2_init 14 = .ok (.bipush 6, 2) := by decide +kernel
theorem dX2_init_16 : decode cX2_init 16 = .ok (.newarray .int, 2) := by decide +kernel
theorem dX2_init_18 : decode cX2_init 18 = .ok (.putfield 15, 3) := by decide +kernel
theorem dX2_init_21 : decode cX2_init 21 = .ok (.return_, 1) := by decide +kernel
theorem dX2_put_0 : decode cX2_put 0 = .ok (.aload_n 0, 1) := by decide +kernel
theorem dX2_put_1 : decode cX2_put 1 = .ok (.getfield 18, 3) := by decide +kernel
theorem dX2_put_4 : decode cX2_put 4 = .ok (.sipush 250, 3) := by decide +kernel
theorem dX2_put_7 : decode cX2_put 7 = .ok (.if_icmp .ge 23, 3) := by decide +kernel
theorem dX2_put_10 : decode cX2_put 10 = .ok (.aload_n 0, 1) := by decide +kernel
theorem dX2_put_11 : decode cX2_put 11 = .ok (.getfield 9, 3) := by decide +kernel
theorem dX2_put_14 : decode cX2_put 14 = .ok (.aload_n 0, 1) := by decide +kernel
theorem dX2_put_15 : decode cX2_put 15 = .ok (.getfield 18, 3) := by decide +kernel
theorem dX2_put_18 : decode cX2_put 18 = .ok (.iload_n 1, 1) := by decide +kernel
theorem dX2_put_19 : decode cX2_put 19 = .ok (.iastore, 1) := by decide +kernel
theorem dX2_put_20 : decode cX2_put 20 = .ok (.aload_n 0, 1) := by decide +kernel
theorem dX2_put_21 : decode cX2_put 21 = .ok (.dup, 1) := by decide +kernel
theorem dX2_put_22 : decode cX2_put 22 = .ok (.getfield 18, 3) := by decide +kernel
theorem dX2_put_25 : decode cX2_put 25 = .ok (.iconst 1, 1) := by decide +kernel
theorem dX2_put_26 : decode cX2_put 26 = .ok (.iadd, 1) := by decide +kernel
theorem dX2_put_27 : decode cX2_put 27 = .ok (.putfield 18, 3) := by decide +kernel
theorem dX2_put_30 : decode cX2_put 30 = .ok (.return_, 1) := by decide +kernel
theorem dX2_readInto_0 : decode cX2_readInto 0 = .ok (.aload_n 1, 1) := by decide +kernel
theorem dX2_readInto_1 : decode cX2_readInto 1 = .ok (.invokevirtual 22, 3) := by decide +kernel
theorem dX2_readInto_4 : decode cX2_readInto 4 = .ok (.aload_n 0, 1) := by decide +kernel
theorem dX2_readInto_5 : decode cX2_readInto 5 = .ok (.iconst 0, 1) := by decide +kernel
theorem dX2_readInto_6 : decode cX2_readInto 6 = .ok (.putfield 27, 3) := by decide +kernel
theorem dX2_readInto_9 : decode cX2_readInto 9 = .ok (.iconst 0, 1) := by decide +kernel
theorem dX2_readInto_10 : decode cX2_readInto 10 = .ok (.istore_n 2, 1) := by decide +kernel
theorem dX2_readInto_11 : decode cX2_readInto 11 = .ok (.aload_n 0, 1) := by decide +kernel
theorem dX2_readInto_12 : decode cX2_readInto 12 = .ok (.invokevirtual 30, 3) := by decide +kernel
theorem dX2_readInto_15 : decode cX2_readInto 15 = .ok (.iload_n 2, 1) := by decide +kernel
theorem dX2_readInto_16 : decode cX2_readInto 16 = .ok (.sipush 250, 3) := by decide +kernel
theorem dX2_readInto_19 : decode cX2_readInto 19 = .ok (.if_icmp .ge 36, 3) := by decide +kernel
theorem dX2_readInto_22 : decode cX2_readInto 22 = .ok (.aload_n 0, 1) := by decide +kernel
theorem dX2_readInto_23 : decode cX2_readInto 23 = .ok (.getfield 33, 3) := by decide +kernel
theorem dX2_readInto_26 : decode cX2_readInto 26 = .ok (.ifCond .eq 29, 3) := by decide +kernel
theorem dX2_readInto_29 : decode cX2_readInto 29 = .ok (.aload_n 0, 1) := by decide +kernel
theorem dX2_readInto_30 : decode cX2_readInto 30 = .ok (.aload_n 1, 1) := by decide +kernel
theorem dX2_readInto_31 : decode cX2_readInto 31 = .ok (.invokevirtual 36, 3) := by decide +kernel
theorem dX2_readInto_34 : decode cX2_readInto 34 = .ok (.ifCond .ne 11, 3) := by decide +kernel
theorem dX2_readInto_37 : decode cX2_readInto 37 = .ok (.bipush (-10), 2) := by decide +kernel
theorem dX2_readInto_39 : decode cX2_readInto 39 = .ok (.aload_n 0, 1) := by decide +kernel
theorem dX2_readInto_40 : decode cX2_readInto 40 = .ok (.getfield 40, 3) := by decide +kernel
theorem dX2_readInto_43 : decode cX2_readInto 43 = .ok (.isub, 1) := by decide +kernel
theorem dX2_readInto_44 : decode cX2_readInto 44 = .ok (.ireturn, 1) := by decide +kernel
theorem dX2_readInto_45 : decode cX2_readInto 45 = .ok (.iinc 2 1, 3) := by decide +kernel
theorem dX2_readInto_48 : decode cX2_readInto 48 = .ok (.aload_n 0, 1) := by decide +kernel
theorem dX2_readInto_49 : decode cX2_readInto 49 = .ok (.invokevirtual 30, 3) := by decide +kernel
theorem dX2_readInto_52 : decode cX2_readInto 52 = .ok (.goto (-37), 3) := by decide +kernel
theorem dX2_readInto_55 : decode cX2_readInto 55 = .ok (.iload_n 2, 1) := by decide +kernel
theorem dX2_readInto_56 : decode cX2_readInto 56 = .ok (.ireturn, 1) := by decide +kernel
theorem dX2_readItem_0 : decode cX2_readItem 0 = .ok (.aload_n 0, 1) := by decide +kernel
theorem dX2_readItem_1 : decode cX2_readItem 1 = .ok (.ldc 43, 2) := by decide +kernel
theorem dX2_readItem_3 : decode cX2_readItem 3 = .ok (.invokevirtual 45, 3) := by decide +kernel
theorem dX2_readItem_6 : decode cX2_readItem 6 = .ok (.ifCond .eq 26, 3) := by decide +kernel
theorem dX2_readItem_9 : decode cX2_readItem 9 = .ok (.aload_n 1, 1) := by decide +kernel
theorem dX2_readItem_10 : decode cX2_readItem 10 = .ok (.getfield 49, 3) := by decide +kernel
theorem dX2_readItem_13 : decode cX2_readItem 13 = .ok (.bipush 7, 2) := by decide +kernel
theorem dX2_readItem_15 : decode cX2_readItem 15 = .ok (.if_icmp .ge 15, 3) := by decide +kernel
theorem dX2_readItem_18 : decode cX2_readItem 18 = .ok (.aload_n 0, 1) := by decide +kernel
theorem dX2_readItem_19 : decode cX2_readItem 19 = .ok (.aload_n 1, 1) := by decide +kernel
theorem dX2_readItem_20 : decode cX2_readItem 20 = .ok (.invokevirtual 52, 3) := by decide +kernel
theorem dX2_readItem_23 : decode cX2_readItem 23 = .ok (.ifCond .eq 7, 3) := by decide +kernel
theorem dX2_readItem_26 : decode cX2_readItem 26 = .ok (.iconst 1, 1) := by decide +kernel
theorem dX2_readItem_27 : decode cX2_readItem 27 = .ok (.goto 4, 3) := by decide +kernel
theorem dX2_readItem_30 : decode cX2_readItem 30 = .ok (.iconst 0, 1) := by decide +kernel
theorem dX2_readItem_31 : decode cX2_readItem 31 = .ok (.ireturn, 1) := by decide +kernel
theorem dX2_readItem_32 : decode cX2_readItem 32 = .ok (.aload_n 0, 1) := by decide +kernel
theorem dX2_readItem_33 : decode cX2_readItem 33 = .ok (.ldc 55, 2) := by decide +kernel
theorem dX2_readItem_35 : decode cX2_readItem 35 = .ok (.invokevirtual 45, 3) := by decide +kernel
theorem dX2_readItem_38 : decode cX2_readItem 38 = .ok (.ifCond .eq 26, 3) := by decide +kernel
theorem dX2_readItem_41 : decode cX2_readItem 41 = .ok (.aload_n 1, 1) := by decide +kernel
theorem dX2_readItem_42 : decode cX2_readItem 42 = .ok (.getfield 57, 3) := by decide +kernel
theorem dX2_readItem_45 : decode cX2_readItem 45 = .ok (.bipush 6, 2) := by decide +kernel
theorem dX2_readItem_47 : decode cX2_readItem 47 = .ok (.if_icmp .ge 15, 3) := by decide +kernel
theorem dX2_readItem_50 : decode cX2_readItem 50 = .ok (.aload_n 0, 1) := by decide +kernel
theorem dX2_readItem_51 : decode cX2_readItem 51 = .ok (.aload_n 1, 1) := by decide +kernel
theorem dX2_readItem_52 : decode cX2_readItem 52 = .ok (.invokevirtual 60, 3) := by decide +kernel
theorem dX2_readItem_55 : decode cX2_readItem 55 = .ok (.ifCond .eq 7, 3) := by decide +kernel
theorem dX2_readItem_58 : decode cX2_readItem 58 = .ok (.iconst 1, 1) := by decide +kernel
theorem dX2_readItem_59 : decode cX2_readItem 59 = .ok (.goto 4, 3) := by decide +kernel
theorem dX2_readItem_62 : decode cX2_readItem 62 = .ok (.iconst 0, 1) := by decide +kernel
theorem dX2_readItem_63 : decode cX2_readItem 63 = .ok (.ireturn, 1) := by decide +kernel
theorem dX2_readItem_64 : decode cX2_readItem 64 = .ok (.aload_n 0, 1) := by decide +kernel
theorem dX2_readItem_65 : decode cX2_readItem 65 = .ok (.ldc 63, 2) := by decide +kernel
theorem dX2_readItem_67 : decode cX2_readItem 67 = .ok (.invokevirtual 45, 3) := by decide +kernel
theorem dX2_readItem_70 : decode cX2_readItem 70 = .ok (.ifCond .eq 15, 3) := by decide +kernel
theorem dX2_readItem_73 : decode cX2_readItem 73 = .ok (.aload_n 0, 1) := by decide +kernel
theorem dX2_readItem_74 : decode cX2_readItem 74 = .ok (.aload_n 1, 1) := by decide +kernel
theorem dX2_readItem_75 : decode cX2_readItem 75 = .ok (.invokevirtual 65, 3) := by decide +kernel
theorem dX2_readItem_78 : decode cX2_readItem 78 = .ok (.ifCond .eq 7, 3) := by decide +kernel
theorem dX2_readItem_81 : decode cX2_readItem 81 = .ok (.iconst 1, 1) := by decide +kernel
theorem dX2_readItem_82 : decode cX2_readItem 82 = .ok (.goto 4, 3) := by decide +kernel
theorem dX2_readItem_85 : decode cX2_readItem 85 = .ok (.iconst 0, 1) := by decide +kernel
theorem dX2_readItem_86 : decode cX2_readItem 86 = .ok (.ireturn, 1) := by decide +kernel
theorem dX2_readRoof_0 : decode cX2_readRoof 0 = .ok (.aload_n 0, 1) := by decide +kernel
theorem dX2_readRoof_1 : decode cX2_readRoof 1 = .ok (.iconst 0, 1) := by decide +kernel
theorem dX2_readRoof_2 : decode cX2_readRoof 2 = .ok (.iconst 0, 1) := by decide +kernel
theorem dX2_readRoof_3 : decode cX2_readRoof 3 = .ok (.iconst 5, 1) := by decide +kernel
theorem dX2_readRoof_4 : decode cX2_readRoof 4 = .ok (.invokevirtual 68, 3) := by decide +kernel
theorem dX2_readRoof_7 : decode cX2_readRoof 7 = .ok (.ifCond .eq 69, 3) := by decide +kernel
theorem dX2_readRoof_10 : decode cX2_readRoof 10 = .ok (.aload_n 0, 1) := by decide +kernel
theorem dX2_readRoof_11 : decode cX2_readRoof 11 = .ok (.iconst 1, 1) := by decide +kernel
theorem dX2_readRoof_12 : decode cX2_readRoof 12 = .ok (.iconst 0, 1) := by decide +kernel
theorem dX2_readRoof_13 : decode cX2_readRoof 13 = .ok (.bipush 9, 2) := by decide +kernel
theorem dX2_readRoof_15 : decode cX2_readRoof 15 = .ok (.invokevirtual 68, 3) := by decide +kernel
theorem dX2_readRoof_18 : decode cX2_readRoof 18 = .ok (.ifCond .eq 58, 3) := by decide +kernel
theorem dX2_readRoof_21 : decode cX2_readRoof 21 = .ok (.aload_n 0, 1) := by decide +kernel
theorem dX2_readRoof_22 : decode cX2_readRoof 22 = .ok (.iconst 2, 1) := by decide +kernel
theorem dX2_readRoof_23 : decode cX2_readRoof 23 = .ok (.iconst 0, 1) := by decide +kernel
theorem dX2_readRoof_24 : decode cX2_readRoof 24 = .ok (.bipush 9, 2) := by decide +kernel
theorem dX2_readRoof_26 : decode cX2_readRoof 26 = .ok (.invokevirtual 68, 3) := by decide +kernel
theorem dX2_readRoof_29 : decode cX2_readRoof 29 = .ok (.ifCond .eq 47, 3) := by decide +kernel
theorem dX2_readRoof_32 : decode cX2_readRoof 32 = .ok (.aload_n 0, 1) := by decide +kernel
theorem dX2_readRoof_33 : decode cX2_readRoof 33 = .ok (.iconst 3, 1) := by decide +kernel
theorem dX2_readRoof_34 : decode cX2_readRoof 34 = .ok (.iconst 0, 1) := by decide +kernel
theorem dX2_readRoof_35 : decode cX2_readRoof 35 = .ok (.bipush 9, 2) := by decide +kernel
theorem dX2_readRoof_37 : decode cX2_readRoof 37 = .ok (.invokevirtual 68, 3) := by decide +kernel
theorem dX2_readRoof_40 : decode cX2_readRoof 40 = .ok (.ifCond .eq 36, 3) := by decide +kernel
theorem dX2_readRoof_43 : decode cX2_readRoof 43 = .ok (.aload_n 0, 1) := by decide +kernel
theorem dX2_readRoof_44 : decode cX2_readRoof 44 = .ok (.iconst 4, 1) := by decide +kernel
theorem dX2_readRoof_45 : decode cX2_readRoof 45 = .ok (.iconst 0, 1) := by decide +kernel
theorem dX2_readRoof_46 : decode cX2_readRoof 46 = .ok (.bipush 9, 2) := by decide +kernel
theorem dX2_readRoof_48 : decode cX2_readRoof 48 = .ok (.invokevirtual 68, 3) := by decide +kernel
theorem dX2_readRoof_51 : decode cX2_readRoof 51 = .ok (.ifCond .eq 25, 3) := by decide +kernel
theorem dX2_readRoof_54 : decode cX2_readRoof 54 = .ok (.aload_n 0, 1) := by decide +kernel
theorem dX2_readRoof_55 : decode cX2_readRoof 55 = .ok (.iconst 5, 1) := by decide +kernel
theorem dX2_readRoof_56 : decode cX2_readRoof 56 = .ok (.iconst 0, 1) := by decide +kernel
theorem dX2_readRoof_57 : decode cX2_readRoof 57 = .ok (.bipush 9, 2) := by decide +kernel
theorem dX2_readRoof_59 : decode cX2_readRoof 59 = .ok (.invokevirtual 68, 3) := by decide +kernel
theorem dX2_readRoof_62 : decode cX2_readRoof 62 = .ok (.ifCond .eq 14, 3) := by decide +kernel
theorem dX2_readRoof_65 : decode cX2_readRoof 65 = .ok (.aload_n 0, 1) := by decide +kernel
theorem dX2_readRoof_66 : decode cX2_readRoof 66 = .ok (.invokevirtual 72, 3) := by decide +kernel
theorem dX2_readRoof_69 : decode cX2_readRoof 69 = .ok (.ifCond .eq 7, 3) := by decide +kernel
theorem dX2_readRoof_72 : decode cX2_readRoof 72 = .ok (.iconst 1, 1) := by decide +kernel
theorem dX2_readRoof_73 : decode cX2_readRoof 73 = .ok (.goto 4, 3) := by decide +kernel
theorem dX2_readRoof_76 : decode cX2_readRoof 76 = .ok (.iconst 0, 1) := by decide +kernel
theorem dX2_readRoof_77 : decode cX2_readRoof 77 = .ok (.istore_n 2, 1) := by decide +kernel
theorem dX2_readRoof_78 : decode cX2_readRoof 78 = .ok (.iload_n 2, 1) := by decide +kernel
theorem dX2_readRoof_79 : decode cX2_readRoof 79 = .ok (.ifCond .eq 44, 3) := by decide +kernel
theorem dX2_readRoof_82 : decode cX2_readRoof 82 = .ok (.aload_n 1, 1) := by decide +kernel
theorem dX2_readRoof_83 : decode cX2_readRoof 83 = .ok (.aload_n 0, 1) := by decide +kernel
theorem dX2_readRoof_84 : decode cX2_readRoof 84 = .ok (.getfield 15, 3) := by decide +kernel
theorem dX2_readRoof_87 : decode cX2_readRoof 87 = .ok (.iconst 0, 1) := by decide +kernel
theorem dX2_readRoof_88 : decode cX2_readRoof 88 = .ok (.iaload, 1) := by decide +kernel
theorem dX2_readRoof_89 : decode cX2_readRoof 89 = .ok (.aload_n 0, 1) := by decide +kernel
theorem dX2_readRoof_90 : decode cX2_readRoof 90 = .ok (.getfield 15, 3) := by decide +kernel
theorem dX2_readRoof_93 : decode cX2_readRoof 93 = .ok (.iconst 1, 1) := by decide +kernel
theorem dX2_readRoof_94 : decode cX2_readRoof 94 = .ok (.iaload, 1) := by decide +kernel
theorem dX2_readRoof_95 : decode cX2_readRoof 95 = .ok (.aload_n 0, 1) := by decide +kernel
theorem dX2_readRoof_96 : decode cX2_readRoof 96 = .ok (.getfield 15, 3) := by decide +kernel
theorem dX2_readRoof_99 : decode cX2_readRoof 99 = .ok (.iconst 2, 1) := by decide +kernel
theorem dX2_readRoof_100 : decode cX2_readRoof 100 = .ok (.iaload, 1) := by decide +kernel
theorem dX2_readRoof_101 : decode cX2_readRoof 101 = .ok (.aload_n 0, 1) := by decide +kernel
theorem dX2_readRoof_102 : decode cX2_readRoof 102 = .ok (.getfield 15, 3) := by decide +kernel
theorem dX2_readRoof_105 : decode cX2_readRoof 105 = .ok (.iconst 3, 1) := by decide +kernel
theorem dX2_readRoof_106 : decode cX2_readRoof 106 = .ok (.iaload, 1) := by decide +kernel
theorem dX2_readRoof_107 : decode cX2_readRoof 107 = .ok (.aload_n 0, 1) := by decide +kernel
theorem dX2_readRoof_108 : decode cX2_readRoof 108 = .ok (.getfield 15, 3) := by decide +kernel
theorem dX2_readRoof_111 : decode cX2_readRoof 111 = .ok (.iconst 4, 1) := by decide +kernel
theorem dX2_readRoof_112 : decode cX2_readRoof 112 = .ok (.iaload, 1) := by decide +kernel
theorem dX2_readRoof_113 : decode cX2_readRoof 113 = .ok (.aload_n 0, 1) := by decide +kernel
theorem dX2_readRoof_114 : decode cX2_readRoof 114 = .ok (.getfield 15, 3) := by decide +kernel
theorem dX2_readRoof_117 : decode cX2_readRoof 117 = .ok (.iconst 5, 1) := by decide +kernel
theorem dX2_readRoof_118 : decode cX2_readRoof 118 = .ok (.iaload, 1) := by decide +kernel
theorem dX2_readRoof_119 : decode cX2_readRoof 119 = .ok (.invokevirtual 76, 3) := by decide +kernel
theorem dX2_readRoof_122 : decode cX2_readRoof 122 = .ok (.pop, 1) := by decide +kernel
theorem dX2_readRoof_123 : decode cX2_readRoof 123 = .ok (.iload_n 2, 1) := by decide +kernel
theorem dX2_readRoof_124 : decode cX2_readRoof 124 = .ok (.ireturn, 1) := by decide +kernel
theorem dX2_readStorm_0 : decode cX2_readStorm 0 = .ok (.aload_n 0, 1) := by decide +kernel
theorem dX2_readStorm_1 : decode cX2_readStorm 1 = .ok (.iconst 0, 1) := by decide +kernel
theorem dX2_readStorm_2 : decode cX2_readStorm 2 = .ok (.iconst 0, 1) := by decide +kernel
theorem dX2_readStorm_3 : decode cX2_readStorm 3 = .ok (.bipush 6, 2) := by decide +kernel
theorem dX2_readStorm_5 : decode cX2_readStorm 5 = .ok (.invokevirtual 68, 3) := by decide +kernel
theorem dX2_readStorm_8 : decode cX2_readStorm 8 = .ok (.ifCond .eq 62, 3) := by decide +kernel
theorem dX2_readStorm_11 : decode cX2_readStorm 11 = .ok (.aload_n 0, 1) := by decide +kernel
theorem dX2_readStorm_12 : decode cX2_readStorm 12 = .ok (.iconst 1, 1) := by decide +kernel
theorem dX2_readStorm_13 : decode cX2_readStorm 13 = .ok (.aload_n 0, 1) := by decide +kernel
theorem dX2_readStorm_14 : decode cX2_readStorm 14 = .ok (.getfield 15, 3) := by decide +kernel
theorem dX2_readStorm_17 : decode cX2_readStorm 17 = .ok (.iconst 0, 1) := by decide +kernel
theorem dX2_readStorm_18 : decode cX2_readStorm 18 = .ok (.iaload, 1) := by decide +kernel
theorem dX2_readStorm_19 : decode cX2_readStorm 19 = .ok (.bipush 6, 2) := by decide +kernel
theorem dX2_readStorm_21 : decode cX2_readStorm 21 = .ok (.invokevirtual 68, 3) := by decide +kernel
theorem dX2_readStorm_24 : decode cX2_readStorm 24 = .ok (.ifCond .eq 46, 3) := by decide +kernel
theorem dX2_readStorm_27 : decode cX2_readStorm 27 = .ok (.aload_n 0, 1) := by decide +kernel
theorem dX2_readStorm_28 : decode cX2_readStorm 28 = .ok (.iconst 2, 1) := by decide +kernel
theorem dX2_readStorm_29 : decode cX2_readStorm 29 = .ok (.iconst 0, 1) := by decide +kernel
theorem dX2_readStorm_30 : decode cX2_readStorm 30 = .ok (.iconst 1, 1) := by decide +kernel
theorem dX2_readStorm_31 : decode cX2_readStorm 31 = .ok (.invokevirtual 68, 3) := by decide +kernel
theorem dX2_readStorm_34 : decode cX2_readStorm 34 = .ok (.ifCond .eq 36, 3) := by decide +kernel
theorem dX2_readStorm_37 : decode cX2_readStorm 37 = .ok (.aload_n 0, 1) := by decide +kernel
theorem dX2_readStorm_38 : decode cX2_readStorm 38 = .ok (.iconst 3, 1) := by decide +kernel
theorem dX2_readStorm_39 : decode cX2_readStorm 39 = .ok (.iconst 1, 1) := by decide +kernel
theorem dX2_readStorm_40 : decode cX2_readStorm 40 = .ok (.bipush 9, 2) := by decide +kernel
theorem dX2_readStorm_42 : decode cX2_readStorm 42 = .ok (.invokevirtual 68, 3) := by decide +kernel
theorem dX2_readStorm_45 : decode cX2_readStorm 45 = .ok (.ifCond .eq 25, 3) := by decide +kernel
theorem dX2_readStorm_48 : decode cX2_readStorm 48 = .ok (.aload_n 0, 1) := by decide +kernel
theorem dX2_readStorm_49 : decode cX2_readStorm 49 = .ok (.iconst 4, 1) := by decide +kernel
theorem dX2_readStorm_50 : decode cX2_readStorm 50 = .ok (.iconst 1, 1) := by decide +kernel
theorem dX2_readStorm_51 : decode cX2_readStorm 51 = .ok (.bipush 9, 2) := by decide +kernel
theorem dX2_readStorm_53 : decode cX2_readStorm 53 = .ok (.invokevirtual 68, 3) := by decide +kernel
theorem dX2_readStorm_56 : decode cX2_readStorm 56 = .ok (.ifCond .eq 14, 3) := by decide +kernel
theorem dX2_readStorm_59 : decode cX2_readStorm 59 = .ok (.aload_n 0, 1) := by decide +kernel
theorem dX2_readStorm_60 : decode cX2_readStorm 60 = .ok (.invokevirtual 72, 3) := by decide +kernel
theorem dX2_readStorm_63 : decode cX2_readStorm 63 = .ok (.ifCond .eq 7, 3) := by decide +kernel
theorem dX2_readStorm_66 : decode cX2_readStorm 66 = .ok (.iconst 1, 1) := by decide +kernel
theorem dX2_readStorm_67 : decode cX2_readStorm 67 = .ok (.goto 4, 3) := by decide +kernel
theorem dX2_readStorm_70 : decode cX2_readStorm 70 = .ok (.iconst 0, 1) := by decide +kernel
theorem dX2_readStorm_71 : decode cX2_readStorm 71 = .ok (.istore_n 2, 1) := by decide +kernel
theorem dX2_readStorm_72 : decode cX2_readStorm 72 = .ok (.iload_n 2, 1) := by decide +kernel
theorem dX2_readStorm_73 : decode cX2_readStorm 73 = .ok (.ifCond .eq 38, 3) := by decide +kernel
theorem dX2_readStorm_76 : decode cX2_readStorm 76 = .ok (.aload_n 1, 1) := by decide +kernel
theorem dX2_readStorm_77 : decode cX2_readStorm 77 = .ok (.aload_n 0, 1) := by decide +kernel
theorem dX2_readStorm_78 : decode cX2_readStorm 78 = .ok (.getfield 15, 3) := by decide +kernel
theorem dX2_readStorm_81 : decode cX2_readStorm 81 = .ok (.iconst 0, 1) := by decide +kernel
theorem dX2_readStorm_82 : decode cX2_readStorm 82 = .ok (.iaload, 1) := by decide +kernel
theorem dX2_readStorm_83 : decode cX2_readStorm 83 = .ok (.aload_n 0, 1) := by decide +kernel
theorem dX2_readStorm_84 : decode cX2_readStorm 84 = .ok (.getfield 15, 3) := by decide +kernel
theorem dX2_readStorm_87 : decode cX2_readStorm 87 = .ok (.iconst 1, 1) := by decide +kernel
theorem dX2_readStorm_88 : decode cX2_readStorm 88 = .ok (.iaload, 1) := by decide +kernel
theorem dX2_readStorm_89 : decode cX2_readStorm 89 = .ok (.aload_n 0, 1) := by decide +kernel
theorem dX2_readStorm_90 : decode cX2_readStorm 90 = .ok (.getfield 15, 3) := by decide +kernel
theorem dX2_readStorm_93 : decode cX2_readStorm 93 = .ok (.iconst 2, 1) := by decide +kernel
theorem dX2_readStorm_94 : decode cX2_readStorm 94 = .ok (.iaload, 1) := by decide +kernel
end
section
theorem dX2_readStorm_95 : decode cX2_readStorm 95 = .ok (.aload_n 0, 1) := by decide +kernel
theorem dX2_readStorm_96 : decode cX2_readStorm 96 = .ok (.getfield 15, 3) := by decide +kernel
theorem dX2_readStorm_99 : decode cX2_readStorm 99 = .ok (.iconst 3, 1) := by decide +kernel
theorem dX2_readStorm_100 : decode cX2_readStorm 100 = .ok (.iaload, 1) := by decide +kernel
theorem dX2_readStorm_101 : decode cX2_readStorm 101 = .ok (.aload_n 0, 1) := by decide +kernel
theorem dX2_readStorm_102 : decode cX2_readStorm 102 = .ok (.getfield 15, 3) := by decide +kernel
theorem dX2_readStorm_105 : decode cX2_readStorm 105 = .ok (.iconst 4, 1) := by decide +kernel
theorem dX2_readStorm_106 : decode cX2_readStorm 106 = .ok (.iaload, 1) := by decide +kernel
theorem dX2_readStorm_107 : decode cX2_readStorm 107 = .ok (.invokevirtual 80, 3) := by decide +kernel
theorem dX2_readStorm_110 : decode cX2_readStorm 110 = .ok (.pop, 1) := by decide +kernel
theorem dX2_readStorm_111 : decode cX2_readStorm 111 = .ok (.iload_n 2, 1) := by decide +kernel
theorem dX2_readStorm_112 : decode cX2_readStorm 112 = .ok (.ireturn, 1) := by decide +kernel
theorem dX2_readCannon_0 : decode cX2_readCannon 0 = .ok (.aload_n 0, 1) := by decide +kernel
theorem dX2_readCannon_1 : decode cX2_readCannon 1 = .ok (.iconst 0, 1) := by decide +kernel
theorem dX2_readCannon_2 : decode cX2_readCannon 2 = .ok (.iconst 0, 1) := by decide +kernel
theorem dX2_readCannon_3 : decode cX2_readCannon 3 = .ok (.bipush 6, 2) := by decide +kernel
theorem dX2_readCannon_5 : decode cX2_readCannon 5 = .ok (.invokevirtual 68, 3) := by decide +kernel
theorem dX2_readCannon_8 : decode cX2_readCannon 8 = .ok (.ifCond .eq 28, 3) := by decide +kernel
theorem dX2_readCannon_11 : decode cX2_readCannon 11 = .ok (.aload_n 1, 1) := by decide +kernel
theorem dX2_readCannon_12 : decode cX2_readCannon 12 = .ok (.getfield 84, 3) := by decide +kernel
theorem dX2_readCannon_15 : decode cX2_readCannon 15 = .ok (.aload_n 0, 1) := by decide +kernel
theorem dX2_readCannon_16 : decode cX2_readCannon 16 = .ok (.getfield 15, 3) := by decide +kernel
theorem dX2_readCannon_19 : decode cX2_readCannon 19 = .ok (.iconst 0, 1) := by decide +kernel
theorem dX2_readCannon_20 : decode cX2_readCannon 20 = .ok (.iaload, 1) := by decide +kernel
theorem dX2_readCannon_21 : decode cX2_readCannon 21 = .ok (.iaload, 1) := by decide +kernel
theorem dX2_readCannon_22 : decode cX2_readCannon 22 = .ok (.ifCond .ne 14, 3) := by decide +kernel
theorem dX2_readCannon_25 : decode cX2_readCannon 25 = .ok (.aload_n 0, 1) := by decide +kernel
theorem dX2_readCannon_26 : decode cX2_readCannon 26 = .ok (.invokevirtual 72, 3) := by decide +kernel
theorem dX2_readCannon_29 : decode cX2_readCannon 29 = .ok (.ifCond .eq 7, 3) := by decide +kernel
theorem dX2_readCannon_32 : decode cX2_readCannon 32 = .ok (.iconst 1, 1) := by decide +kernel
theorem dX2_readCannon_33 : decode cX2_readCannon 33 = .ok (.goto 4, 3) := by decide +kernel
theorem dX2_readCannon_36 : decode cX2_readCannon 36 = .ok (.iconst 0, 1) := by decide +kernel
theorem dX2_readCannon_37 : decode cX2_readCannon 37 = .ok (.istore_n 2, 1) := by decide +kernel
theorem dX2_readCannon_38 : decode cX2_readCannon 38 = .ok (.iload_n 2, 1) := by decide +kernel
theorem dX2_readCannon_39 : decode cX2_readCannon 39 = .ok (.ifCond .eq 15, 3) := by decide +kernel
theorem dX2_readCannon_42 : decode cX2_readCannon 42 = .ok (.aload_n 1, 1) := by decide +kernel
theorem dX2_readCannon_43 : decode cX2_readCannon 43 = .ok (.getfield 84, 3) := by decide +kernel
theorem dX2_readCannon_46 : decode cX2_readCannon 46 = .ok (.aload_n 0, 1) := by decide +kernel
theorem dX2_readCannon_47 : decode cX2_readCannon 47 = .ok (.getfield 15, 3) := by decide +kernel
theorem dX2_readCannon_50 : decode cX2_readCannon 50 = .ok (.iconst 0, 1) := by decide +kernel
theorem dX2_readCannon_51 : decode cX2_readCannon 51 = .ok (.iaload, 1) := by decide +kernel
theorem dX2_readCannon_52 : decode cX2_readCannon 52 = .ok (.iconst 1, 1) := by decide +kernel
theorem dX2_readCannon_53 : decode cX2_readCannon 53 = .ok (.iastore, 1) := by decide +kernel
theorem dX2_readCannon_54 : decode cX2_readCannon 54 = .ok (.iload_n 2, 1) := by decide +kernel
theorem dX2_readCannon_55 : decode cX2_readCannon 55 = .ok (.ireturn, 1) := by decide +kernel
theorem dX2_readNumber_0 : decode cX2_readNumber 0 = .ok (.aload_n 0, 1) := by decide +kernel
theorem dX2_readNumber_1 : decode cX2_readNumber 1 = .ok (.invokevirtual 30, 3) := by decide +kernel
theorem dX2_readNumber_4 : decode cX2_readNumber 4 = .ok (.aload_n 0, 1) := by decide +kernel
theorem dX2_readNumber_5 : decode cX2_readNumber 5 = .ok (.getfield 33, 3) := by decide +kernel
theorem dX2_readNumber_8 : decode cX2_readNumber 8 = .ok (.iconst 2, 1) := by decide +kernel
theorem dX2_readNumber_9 : decode cX2_readNumber 9 = .ok (.if_icmp .eq 5, 3) := by decide +kernel
theorem dX2_readNumber_12 : decode cX2_readNumber 12 = .ok (.iconst 0, 1) := by decide +kernel
theorem dX2_readNumber_13 : decode cX2_readNumber 13 = .ok (.ireturn, 1) := by decide +kernel
theorem dX2_readNumber_14 : decode cX2_readNumber 14 = .ok (.aload_n 0, 1) := by decide +kernel
theorem dX2_readNumber_15 : decode cX2_readNumber 15 = .ok (.getfield 15, 3) := by decide +kernel
theorem dX2_readNumber_18 : decode cX2_readNumber 18 = .ok (.iload_n 1, 1) := by decide +kernel
theorem dX2_readNumber_19 : decode cX2_readNumber 19 = .ok (.aload_n 0, 1) := by decide +kernel
theorem dX2_readNumber_20 : decode cX2_readNumber 20 = .ok (.getfield 9, 3) := by decide +kernel
theorem dX2_readNumber_23 : decode cX2_readNumber 23 = .ok (.aload_n 0, 1) := by decide +kernel
theorem dX2_readNumber_24 : decode cX2_readNumber 24 = .ok (.getfield 40, 3) := by decide +kernel
theorem dX2_readNumber_27 : decode cX2_readNumber 27 = .ok (.iaload, 1) := by decide +kernel
theorem dX2_readNumber_28 : decode cX2_readNumber 28 = .ok (.bipush 48, 2) := by decide +kernel
theorem dX2_readNumber_30 : decode cX2_readNumber 30 = .ok (.isub, 1) := by decide +kernel
theorem dX2_readNumber_31 : decode cX2_readNumber 31 = .ok (.iastore, 1) := by decide +kernel
theorem dX2_readNumber_32 : decode cX2_readNumber 32 = .ok (.aload_n 0, 1) := by decide +kernel
theorem dX2_readNumber_33 : decode cX2_readNumber 33 = .ok (.getfield 15, 3) := by decide +kernel
theorem dX2_readNumber_36 : decode cX2_readNumber 36 = .ok (.iload_n 1, 1) := by decide +kernel
theorem dX2_readNumber_37 : decode cX2_readNumber 37 = .ok (.iaload, 1) := by decide +kernel
theorem dX2_readNumber_38 : decode cX2_readNumber 38 = .ok (.iload_n 2, 1) := by decide +kernel
theorem dX2_readNumber_39 : decode cX2_readNumber 39 = .ok (.iload_n 3, 1) := by decide +kernel
theorem dX2_readNumber_40 : decode cX2_readNumber 40 = .ok (.invokestatic 87, 3) := by decide +kernel
theorem dX2_readNumber_43 : decode cX2_readNumber 43 = .ok (.ireturn, 1) := by decide +kernel
theorem dX2_readStop_0 : decode cX2_readStop 0 = .ok (.aload_n 0, 1) := by decide +kernel
theorem dX2_readStop_1 : decode cX2_readStop 1 = .ok (.invokevirtual 30, 3) := by decide +kernel
theorem dX2_readStop_4 : decode cX2_readStop 4 = .ok (.aload_n 0, 1) := by decide +kernel
theorem dX2_readStop_5 : decode cX2_readStop 5 = .ok (.getfield 33, 3) := by decide +kernel
theorem dX2_readStop_8 : decode cX2_readStop 8 = .ok (.iconst 3, 1) := by decide +kernel
theorem dX2_readStop_9 : decode cX2_readStop 9 = .ok (.if_icmp .ne 7, 3) := by decide +kernel
theorem dX2_readStop_12 : decode cX2_readStop 12 = .ok (.iconst 1, 1) := by decide +kernel
theorem dX2_readStop_13 : decode cX2_readStop 13 = .ok (.goto 4, 3) := by decide +kernel
theorem dX2_readStop_16 : decode cX2_readStop 16 = .ok (.iconst 0, 1) := by decide +kernel
theorem dX2_readStop_17 : decode cX2_readStop 17 = .ok (.ireturn, 1) := by decide +kernel
theorem dX2_isWord_0 : decode cX2_isWord 0 = .ok (.aload_n 0, 1) := by decide +kernel
theorem dX2_isWord_1 : decode cX2_isWord 1 = .ok (.getfield 33, 3) := by decide +kernel
theorem dX2_isWord_4 : decode cX2_isWord 4 = .ok (.iconst 1, 1) := by decide +kernel
theorem dX2_isWord_5 : decode cX2_isWord 5 = .ok (.if_icmp .ne 19, 3) := by decide +kernel
theorem dX2_isWord_8 : decode cX2_isWord 8 = .ok (.aload_n 0, 1) := by decide +kernel
theorem dX2_isWord_9 : decode cX2_isWord 9 = .ok (.getfield 27, 3) := by decide +kernel
theorem dX2_isWord_12 : decode cX2_isWord 12 = .ok (.aload_n 0, 1) := by decide +kernel
theorem dX2_isWord_13 : decode cX2_isWord 13 = .ok (.getfield 40, 3) := by decide +kernel
theorem dX2_isWord_16 : decode cX2_isWord 16 = .ok (.isub, 1) := by decide +kernel
theorem dX2_isWord_17 : decode cX2_isWord 17 = .ok (.aload_n 1, 1) := by decide +kernel
theorem dX2_isWord_18 : decode cX2_isWord 18 = .ok (.invokevirtual 90, 3) := by decide +kernel
theorem dX2_isWord_21 : decode cX2_isWord 21 = .ok (.if_icmp .eq 5, 3) := by decide +kernel
theorem dX2_isWord_24 : decode cX2_isWord 24 = .ok (.iconst 0, 1) := by decide +kernel
theorem dX2_isWord_25 : decode cX2_isWord 25 = .ok (.ireturn, 1) := by decide +kernel
theorem dX2_isWord_26 : decode cX2_isWord 26 = .ok (.iconst 0, 1) := by decide +kernel
theorem dX2_isWord_27 : decode cX2_isWord 27 = .ok (.istore_n 2, 1) := by decide +kernel
theorem dX2_isWord_28 : decode cX2_isWord 28 = .ok (.iload_n 2, 1) := by decide +kernel
theorem dX2_isWord_29 : decode cX2_isWord 29 = .ok (.aload_n 1, 1) := by decide +kernel
theorem dX2_isWord_30 : decode cX2_isWord 30 = .ok (.invokevirtual 90, 3) := by decide +kernel
theorem dX2_isWord_33 : decode cX2_isWord 33 = .ok (.if_icmp .ge 30, 3) := by decide +kernel
theorem dX2_isWord_36 : decode cX2_isWord 36 = .ok (.aload_n 0, 1) := by decide +kernel
theorem dX2_isWord_37 : decode cX2_isWord 37 = .ok (.getfield 9, 3) := by decide +kernel
theorem dX2_isWord_40 : decode cX2_isWord 40 = .ok (.aload_n 0, 1) := by decide +kernel
theorem dX2_isWord_41 : decode cX2_isWord 41 = .ok (.getfield 40, 3) := by decide +kernel
theorem dX2_isWord_44 : decode cX2_isWord 44 = .ok (.iload_n 2, 1) := by decide +kernel
theorem dX2_isWord_45 : decode cX2_isWord 45 = .ok (.iadd, 1) := by decide +kernel
theorem dX2_isWord_46 : decode cX2_isWord 46 = .ok (.iaload, 1) := by decide +kernel
theorem dX2_isWord_47 : decode cX2_isWord 47 = .ok (.aload_n 1, 1) := by decide +kernel
theorem dX2_isWord_48 : decode cX2_isWord 48 = .ok (.iload_n 2, 1) := by decide +kernel
theorem dX2_isWord_49 : decode cX2_isWord 49 = .ok (.invokevirtual 95, 3) := by decide +kernel
theorem dX2_isWord_52 : decode cX2_isWord 52 = .ok (.if_icmp .eq 5, 3) := by decide +kernel
theorem dX2_isWord_55 : decode cX2_isWord 55 = .ok (.iconst 0, 1) := by decide +kernel
theorem dX2_isWord_56 : decode cX2_isWord 56 = .ok (.ireturn, 1) := by decide +kernel
theorem dX2_isWord_57 : decode cX2_isWord 57 = .ok (.iinc 2 1, 3) := by decide +kernel
theorem dX2_isWord_60 : decode cX2_isWord 60 = .ok (.goto (-32), 3) := by decide +kernel
theorem dX2_isWord_63 : decode cX2_isWord 63 = .ok (.iconst 1, 1) := by decide +kernel
theorem dX2_isWord_64 : decode cX2_isWord 64 = .ok (.ireturn, 1) := by decide +kernel
theorem dX2_nextToken_0 : decode cX2_nextToken 0 = .ok (.aload_n 0, 1) := by decide +kernel
theorem dX2_nextToken_1 : decode cX2_nextToken 1 = .ok (.aload_n 0, 1) := by decide +kernel
theorem dX2_nextToken_2 : decode cX2_nextToken 2 = .ok (.aload_n 0, 1) := by decide +kernel
theorem dX2_nextToken_3 : decode cX2_nextToken 3 = .ok (.getfield 27, 3) := by decide +kernel
theorem dX2_nextToken_6 : decode cX2_nextToken 6 = .ok (.bipush 32, 2) := by decide +kernel
theorem dX2_nextToken_8 : decode cX2_nextToken 8 = .ok (.bipush 32, 2) := by decide +kernel
theorem dX2_nextToken_10 : decode cX2_nextToken 10 = .ok (.invokevirtual 99, 3) := by decide +kernel
theorem dX2_nextToken_13 : decode cX2_nextToken 13 = .ok (.putfield 40, 3) := by decide +kernel
theorem dX2_nextToken_16 : decode cX2_nextToken 16 = .ok (.aload_n 0, 1) := by decide +kernel
theorem dX2_nextToken_17 : decode cX2_nextToken 17 = .ok (.aload_n 0, 1) := by decide +kernel
theorem dX2_nextToken_18 : decode cX2_nextToken 18 = .ok (.getfield 40, 3) := by decide +kernel
theorem dX2_nextToken_21 : decode cX2_nextToken 21 = .ok (.iconst 1, 1) := by decide +kernel
theorem dX2_nextToken_22 : decode cX2_nextToken 22 = .ok (.iadd, 1) := by decide +kernel
theorem dX2_nextToken_23 : decode cX2_nextToken 23 = .ok (.putfield 27, 3) := by decide +kernel
theorem dX2_nextToken_26 : decode cX2_nextToken 26 = .ok (.aload_n 0, 1) := by decide +kernel
theorem dX2_nextToken_27 : decode cX2_nextToken 27 = .ok (.getfield 40, 3) := by decide +kernel
theorem dX2_nextToken_30 : decode cX2_nextToken 30 = .ok (.aload_n 0, 1) := by decide +kernel
theorem dX2_nextToken_31 : decode cX2_nextToken 31 = .ok (.getfield 18, 3) := by decide +kernel
theorem dX2_nextToken_34 : decode cX2_nextToken 34 = .ok (.if_icmp .lt 19, 3) := by decide +kernel
theorem dX2_nextToken_37 : decode cX2_nextToken 37 = .ok (.aload_n 0, 1) := by decide +kernel
theorem dX2_nextToken_38 : decode cX2_nextToken 38 = .ok (.iconst 0, 1) := by decide +kernel
theorem dX2_nextToken_39 : decode cX2_nextToken 39 = .ok (.putfield 33, 3) := by decide +kernel
theorem dX2_nextToken_42 : decode cX2_nextToken 42 = .ok (.aload_n 0, 1) := by decide +kernel
theorem dX2_nextToken_43 : decode cX2_nextToken 43 = .ok (.aload_n 0, 1) := by decide +kernel
theorem dX2_nextToken_44 : decode cX2_nextToken 44 = .ok (.getfield 18, 3) := by decide +kernel
theorem dX2_nextToken_47 : decode cX2_nextToken 47 = .ok (.putfield 27, 3) := by decide +kernel
theorem dX2_nextToken_50 : decode cX2_nextToken 50 = .ok (.goto 129, 3) := by decide +kernel
theorem dX2_nextToken_53 : decode cX2_nextToken 53 = .ok (.aload_n 0, 1) := by decide +kernel
theorem dX2_nextToken_54 : decode cX2_nextToken 54 = .ok (.getfield 9, 3) := by decide +kernel
theorem dX2_nextToken_57 : decode cX2_nextToken 57 = .ok (.aload_n 0, 1) := by decide +kernel
theorem dX2_nextToken_58 : decode cX2_nextToken 58 = .ok (.getfield 40, 3) := by decide +kernel
theorem dX2_nextToken_61 : decode cX2_nextToken 61 = .ok (.iaload, 1) := by decide +kernel
theorem dX2_nextToken_62 : decode cX2_nextToken 62 = .ok (.bipush 97, 2) := by decide +kernel
theorem dX2_nextToken_64 : decode cX2_nextToken 64 = .ok (.bipush 122, 2) := by decide +kernel
theorem dX2_nextToken_66 : decode cX2_nextToken 66 = .ok (.invokestatic 87, 3) := by decide +kernel
theorem dX2_nextToken_69 : decode cX2_nextToken 69 = .ok (.ifCond .eq 27, 3) := by decide +kernel
theorem dX2_nextToken_72 : decode cX2_nextToken 72 = .ok (.aload_n 0, 1) := by decide +kernel
theorem dX2_nextToken_73 : decode cX2_nextToken 73 = .ok (.iconst 1, 1) := by decide +kernel
theorem dX2_nextToken_74 : decode cX2_nextToken 74 = .ok (.putfield 33, 3) := by decide +kernel
theorem dX2_nextToken_77 : decode cX2_nextToken 77 = .ok (.aload_n 0, 1) := by decide +kernel
theorem dX2_nextToken_78 : decode cX2_nextToken 78 = .ok (.aload_n 0, 1) := by decide +kernel
theorem dX2_nextToken_79 : decode cX2_nextToken 79 = .ok (.aload_n 0, 1) := by decide +kernel
theorem dX2_nextToken_80 : decode cX2_nextToken 80 = .ok (.getfield 40, 3) := by decide +kernel
theorem dX2_nextToken_83 : decode cX2_nextToken 83 = .ok (.bipush 97, 2) := by decide +kernel
theorem dX2_nextToken_85 : decode cX2_nextToken 85 = .ok (.bipush 122, 2) := by decide +kernel
theorem dX2_nextToken_87 : decode cX2_nextToken 87 = .ok (.invokevirtual 99, 3) := by decide +kernel
theorem dX2_nextToken_90 : decode cX2_nextToken 90 = .ok (.putfield 27, 3) := by decide +kernel
theorem dX2_nextToken_93 : decode cX2_nextToken 93 = .ok (.goto 86, 3) := by decide +kernel
theorem dX2_nextToken_96 : decode cX2_nextToken 96 = .ok (.aload_n 0, 1) := by decide +kernel
theorem dX2_nextToken_97 : decode cX2_nextToken 97 = .ok (.getfield 9, 3) := by decide +kernel
theorem dX2_nextToken_100 : decode cX2_nextToken 100 = .ok (.aload_n 0, 1) := by decide +kernel
theorem dX2_nextToken_101 : decode cX2_nextToken 101 = .ok (.getfield 40, 3) := by decide +kernel
theorem dX2_nextToken_104 : decode cX2_nextToken 104 = .ok (.iaload, 1) := by decide +kernel
theorem dX2_nextToken_105 : decode cX2_nextToken 105 = .ok (.bipush 48, 2) := by decide +kernel
theorem dX2_nextToken_107 : decode cX2_nextToken 107 = .ok (.bipush 57, 2) := by decide +kernel
theorem dX2_nextToken_109 : decode cX2_nextToken 109 = .ok (.invokestatic 87, 3) := by decide +kernel
theorem dX2_nextToken_112 : decode cX2_nextToken 112 = .ok (.ifCond .eq 44, 3) := by decide +kernel
theorem dX2_nextToken_115 : decode cX2_nextToken 115 = .ok (.aload_n 0, 1) := by decide +kernel
theorem dX2_nextToken_116 : decode cX2_nextToken 116 = .ok (.aload_n 0, 1) := by decide +kernel
theorem dX2_nextToken_117 : decode cX2_nextToken 117 = .ok (.aload_n 0, 1) := by decide +kernel
theorem dX2_nextToken_118 : decode cX2_nextToken 118 = .ok (.getfield 40, 3) := by decide +kernel
theorem dX2_nextToken_121 : decode cX2_nextToken 121 = .ok (.bipush 48, 2) := by decide +kernel
theorem dX2_nextToken_123 : decode cX2_nextToken 123 = .ok (.bipush 57, 2) := by decide +kernel
theorem dX2_nextToken_125 : decode cX2_nextToken 125 = .ok (.invokevirtual 99, 3) := by decide +kernel
theorem dX2_nextToken_128 : decode cX2_nextToken 128 = .ok (.putfield 27, 3) := by decide +kernel
theorem dX2_nextToken_131 : decode cX2_nextToken 131 = .ok (.aload_n 0, 1) := by decide +kernel
theorem dX2_nextToken_132 : decode cX2_nextToken 132 = .ok (.aload_n 0, 1) := by decide +kernel
theorem dX2_nextToken_133 : decode cX2_nextToken 133 = .ok (.getfield 27, 3) := by decide +kernel
theorem dX2_nextToken_136 : decode cX2_nextToken 136 = .ok (.aload_n 0, 1) := by decide +kernel
theorem dX2_nextToken_137 : decode cX2_nextToken 137 = .ok (.getfield 40, 3) := by decide +kernel
theorem dX2_nextToken_140 : decode cX2_nextToken 140 = .ok (.isub, 1) := by decide +kernel
theorem dX2_nextToken_141 : decode cX2_nextToken 141 = .ok (.iconst 1, 1) := by decide +kernel
theorem dX2_nextToken_142 : decode cX2_nextToken 142 = .ok (.if_icmp .ne 7, 3) := by decide +kernel
theorem dX2_nextToken_145 : decode cX2_nextToken 145 = .ok (.iconst 2, 1) := by decide +kernel
theorem dX2_nextToken_146 : decode cX2_nextToken 146 = .ok (.goto 4, 3) := by decide +kernel
theorem dX2_nextToken_149 : decode cX2_nextToken 149 = .ok (.iconst 4, 1) := by decide +kernel
theorem dX2_nextToken_150 : decode cX2_nextToken 150 = .ok (.putfield 33, 3) := by decide +kernel
theorem dX2_nextToken_153 : decode cX2_nextToken 153 = .ok (.goto 26, 3) := by decide +kernel
theorem dX2_nextToken_156 : decode cX2_nextToken 156 = .ok (.aload_n 0, 1) := by decide +kernel
theorem dX2_nextToken_157 : decode cX2_nextToken 157 = .ok (.aload_n 0, 1) := by decide +kernel
theorem dX2_nextToken_158 : decode cX2_nextToken 158 = .ok (.getfield 9, 3) := by decide +kernel
theorem dX2_nextToken_161 : decode cX2_nextToken 161 = .ok (.aload_n 0, 1) := by decide +kernel
theorem dX2_nextToken_162 : decode cX2_nextToken 162 = .ok (.getfield 40, 3) := by decide +kernel
theorem dX2_nextToken_165 : decode cX2_nextToken 165 = .ok (.iaload, 1) := by decide +kernel
theorem dX2_nextToken_166 : decode cX2_nextToken 166 = .ok (.bipush 59, 2) := by decide +kernel
theorem dX2_nextToken_168 : decode cX2_nextToken 168 = .ok (.if_icmp .ne 7, 3) := by decide +kernel
theorem dX2_nextToken_171 : decode cX2_nextToken 171 = .ok (.iconst 3, 1) := by decide +kernel
theorem dX2_nextToken_172 : decode cX2_nextToken 172 = .ok (.goto 4, 3) := by decide +kernel
theorem dX2_nextToken_175 : decode cX2_nextToken 175 = .ok (.iconst 4, 1) := by decide +kernel
theorem dX2_nextToken_176 : decode cX2_nextToken 176 = .ok (.putfield 33, 3) := by decide +kernel
theorem dX2_nextToken_179 : decode cX2_nextToken 179 = .ok (.return_, 1) := by decide +kernel
theorem dX2_endOfRun_0 : decode cX2_endOfRun 0 = .ok (.iload_n 1, 1) := by decide +kernel
theorem dX2_endOfRun_1 : decode cX2_endOfRun 1 = .ok (.istore 4, 2) := by decide +kernel
theorem dX2_endOfRun_3 : decode cX2_endOfRun 3 = .ok (.iload 4, 2) := by decide +kernel
theorem dX2_endOfRun_5 : decode cX2_endOfRun 5 = .ok (.aload_n 0, 1) := by decide +kernel
theorem dX2_endOfRun_6 : decode cX2_endOfRun 6 = .ok (.getfield 18, 3) := by decide +kernel
theorem dX2_endOfRun_9 : decode cX2_endOfRun 9 = .ok (.if_icmp .ge 34, 3) := by decide +kernel
theorem dX2_endOfRun_12 : decode cX2_endOfRun 12 = .ok (.aload_n 0, 1) := by decide +kernel
theorem dX2_endOfRun_13 : decode cX2_endOfRun 13 = .ok (.getfield 9, 3) := by decide +kernel
theorem dX2_endOfRun_16 : decode cX2_endOfRun 16 = .ok (.iload 4, 2) := by decide +kernel
theorem dX2_endOfRun_18 : decode cX2_endOfRun 18 = .ok (.iaload, 1) := by decide +kernel
theorem dX2_endOfRun_19 : decode cX2_endOfRun 19 = .ok (.iload_n 2, 1) := by decide +kernel
theorem dX2_endOfRun_20 : decode cX2_endOfRun 20 = .ok (.if_icmp .lt 14, 3) := by decide +kernel
theorem dX2_endOfRun_23 : decode cX2_endOfRun 23 = .ok (.aload_n 0, 1) := by decide +kernel
theorem dX2_endOfRun_24 : decode cX2_endOfRun 24 = .ok (.getfield 9, 3) := by decide +kernel
theorem dX2_endOfRun_27 : decode cX2_endOfRun 27 = .ok (.iload 4, 2) := by decide +kernel
theorem dX2_endOfRun_29 : decode cX2_endOfRun 29 = .ok (.iaload, 1) := by decide +kernel
theorem dX2_endOfRun_30 : decode cX2_endOfRun 30 = .ok (.iload_n 3, 1) := by decide +kernel
theorem dX2_endOfRun_31 : decode cX2_endOfRun 31 = .ok (.if_icmp .le 6, 3) := by decide +kernel
theorem dX2_endOfRun_34 : decode cX2_endOfRun 34 = .ok (.iload 4, 2) := by decide +kernel
theorem dX2_endOfRun_36 : decode cX2_endOfRun 36 = .ok (.ireturn, 1) := by decide +kernel
theorem dX2_endOfRun_37 : decode cX2_endOfRun 37 = .ok (.iinc 4 1, 3) := by decide +kernel
theorem dX2_endOfRun_40 : decode cX2_endOfRun 40 = .ok (.goto (-37), 3) := by decide +kernel
theorem dX2_endOfRun_43 : decode cX2_endOfRun 43 = .ok (.aload_n 0, 1) := by decide +kernel
theorem dX2_endOfRun_44 : decode cX2_endOfRun 44 = .ok (.getfield 18, 3) := by decide +kernel
theorem dX2_endOfRun_47 : decode cX2_endOfRun 47 = .ok (.ireturn, 1) := by decide +kernel
theorem dX3_init_0 : decode cX3_init 0 = .ok (.aload_n 0, 1) := by decide +kernel
theorem dX3_init_1 : decode cX3_init 1 = .ok (.invokespecial 3, 3) := by decide +kernel
theorem dX3_init_4 : decode cX3_init 4 = .ok (.aload_n 0, 1) := by decide +kernel
theorem dX3_init_5 : decode cX3_init 5 = .ok (.new 9, 3) := by decide +kernel
theorem dX3_init_8 : decode cX3_init 8 = .ok (.dup, 1) := by decide +kernel
theorem dX3_init_9 : decode cX3_init 9 = .ok (.invokespecial 11, 3) := by decide +kernel
theorem dX3_init_12 : decode cX3_init 12 = .ok (.putfield 12, 3) := by decide +kernel
theorem dX3_init_15 : decode cX3_init 15 = .ok (.aload_n 0, 1) := by decide +kernel
theorem dX3_init_16 : decode cX3_init 16 = .ok (.iconst 3, 1) := by decide +kernel
theorem dX3_init_17 : decode cX3_init 17 = .ok (.anewarray 9, 3) := by decide +kernel
theorem dX3_init_20 : decode cX3_init 20 = .ok (.dup, 1) := by decide +kernel
theorem dX3_init_21 : decode cX3_init 21 = .ok (.iconst 0, 1) := by decide +kernel
theorem dX3_init_22 : decode cX3_init 22 = .ok (.new 9, 3) := by decide +kernel
theorem dX3_init_25 : decode cX3_init 25 = .ok (.dup, 1) := by decide +kernel
theorem dX3_init_26 : decode cX3_init 26 = .ok (.invokespecial 11, 3) := by decide +kernel
theorem dX3_init_29 : decode cX3_init 29 = .ok (.aastore, 1) := by decide +kernel
theorem dX3_init_30 : decode cX3_init 30 = .ok (.dup, 1) := by decide +kernel
theorem dX3_init_31 : decode cX3_init 31 = .ok (.iconst 1, 1) := by decide +kernel
theorem dX3_init_32 : decode cX3_init 32 = .ok (.new 9, 3) := by decide +kernel
theorem dX3_init_35 : decode cX3_init 35 = .ok (.dup, 1) := by decide +kernel
theorem dX3_init_36 : decode cX3_init 36 = .ok (.invokespecial 11, 3) := by decide +kernel
theorem dX3_init_39 : decode cX3_init 39 = .ok (.aastore, 1) := by decide +kernel
theorem dX3_init_40 : decode cX3_init 40 = .ok (.dup, 1) := by decide +kernel
theorem dX3_init_41 : decode cX3_init 41 = .ok (.iconst 2, 1) := by decide +kernel
theorem dX3_init_42 : decode cX3_init 42 = .ok (.new 9, 3) := by decide +kernel
theorem dX3_init_45 : decode cX3_init 45 = .ok (.dup, 1) := by decide +kernel
theorem dX3_init_46 : decode cX3_init 46 = .ok (.invokespecial 11, 3) := by decide +kernel
theorem dX3_init_49 : decode cX3_init 49 = .ok (.aastore, 1) := by decide +kernel
theorem dX3_init_50 : decode cX3_init 50 = .ok (.putfield 18, 3) := by decide +kernel
theorem dX3_init_53 : decode cX3_init 53 = .ok (.return_, 1) := by decide +kernel
theorem dX3_remember_0 : decode cX3_remember 0 = .ok (.aload_n 0, 1) := by decide +kernel
theorem dX3_remember_1 : decode cX3_remember 1 = .ok (.getfield 22, 3) := by decide +kernel
theorem dX3_remember_4 : decode cX3_remember 4 = .ok (.iconst 3, 1) := by decide +kernel
theorem dX3_remember_5 : decode cX3_remember 5 = .ok (.if_icmp .lt 7, 3) := by decide +kernel
theorem dX3_remember_8 : decode cX3_remember 8 = .ok (.aload_n 0, 1) := by decide +kernel
theorem dX3_remember_9 : decode cX3_remember 9 = .ok (.invokevirtual 26, 3) := by decide +kernel
theorem dX3_remember_12 : decode cX3_remember 12 = .ok (.aload_n 0, 1) := by decide +kernel
theorem dX3_remember_13 : decode cX3_remember 13 = .ok (.getfield 18, 3) := by decide +kernel
theorem dX3_remember_16 : decode cX3_remember 16 = .ok (.aload_n 0, 1) := by decide +kernel
theorem dX3_remember_17 : decode cX3_remember 17 = .ok (.getfield 22, 3) := by decide +kernel
theorem dX3_remember_20 : decode cX3_remember 20 = .ok (.aaload, 1) := by decide +kernel
theorem dX3_remember_21 : decode cX3_remember 21 = .ok (.aload_n 0, 1) := by decide +kernel
theorem dX3_remember_22 : decode cX3_remember 22 = .ok (.getfield 12, 3) := by decide +kernel
theorem dX3_remember_25 : decode cX3_remember 25 = .ok (.invokevirtual 29, 3) := by decide +kernel
theorem dX3_remember_28 : decode cX3_remember 28 = .ok (.aload_n 0, 1) := by decide +kernel
theorem dX3_remember_29 : decode cX3_remember 29 = .ok (.dup, 1) := by decide +kernel
theorem dX3_remember_30 : decode cX3_remember 30 = .ok (.getfield 22, 3) := by decide +kernel
theorem dX3_remember_33 : decode cX3_remember 33 = .ok (.iconst 1, 1) := by decide +kernel
theorem dX3_remember_34 : decode cX3_remember 34 = .ok (.iadd, 1) := by decide +kernel
theorem dX3_remember_35 : decode cX3_remember 35 = .ok (.putfield 22, 3) := by decide +kernel
theorem dX3_remember_38 : decode cX3_remember 38 = .ok (.return_, 1) := by decide +kernel
theorem dX3_forgetOldest_0 : decode cX3_forgetOldest 0 = .ok (.aload_n 0, 1) := by decide +kernel
theorem dX3_forgetOldest_1 : decode cX3_forgetOldest 1 = .ok (.getfield 18, 3) := by decide +kernel
theorem dX3_forgetOldest_4 : decode cX3_forgetOldest 4 = .ok (.iconst 0, 1) := by decide +kernel
theorem dX3_forgetOldest_5 : decode cX3_forgetOldest 5 = .ok (.aaload, 1) := by decide +kernel
theorem dX3_forgetOldest_6 : decode cX3_forgetOldest 6 = .ok (.astore_n 1, 1) := by decide +kernel
theorem dX3_forgetOldest_7 : decode cX3_forgetOldest 7 = .ok (.aload_n 0, 1) := by decide +kernel
theorem dX3_forgetOldest_8 : decode cX3_forgetOldest 8 = .ok (.getfield 18, 3) := by decide +kernel
theorem dX3_forgetOldest_11 : decode cX3_forgetOldest 11 = .ok (.iconst 0, 1) := by decide +kernel
theorem dX3_forgetOldest_12 : decode cX3_forgetOldest 12 = .ok (.aload_n 0, 1) := by decide +kernel
theorem dX3_forgetOldest_13 : decode cX3_forgetOldest 13 = .ok (.getfield 18, 3) := by decide +kernel
theorem dX3_forgetOldest_16 : decode cX3_forgetOldest 16 = .ok (.iconst 1, 1) := by decide +kernel
theorem dX3_forgetOldest_17 : decode cX3_forgetOldest 17 = .ok (.aaload, 1) := by decide +kernel
theorem dX3_forgetOldest_18 : decode cX3_forgetOldest 18 = .ok (.aastore, 1) := by decide +kernel
theorem dX3_forgetOldest_19 : decode cX3_forgetOldest 19 = .ok (.aload_n 0, 1) := by decide +kernel
theorem dX3_forgetOldest_20 : decode cX3_forgetOldest 20 = .ok (.getfield 18, 3) := by decide +kernel
theorem dX3_forgetOldest_23 : decode cX3_forgetOldest 23 = .ok (.iconst 1, 1) := by decide +kernel
theorem dX3_forgetOldest_24 : decode cX3_forgetOldest 24 = .ok (.aload_n 0, 1) := by decide +kernel
theorem dX3_forgetOldest_25 : decode cX3_forgetOldest 25 = .ok (.getfield 18, 3) := by decide +kernel
theorem dX3_forgetOldest_28 : decode cX3_forgetOldest 28 = .ok (.iconst 2, 1) := by decide +kernel
theorem dX3_forgetOldest_29 : decode cX3_forgetOldest 29 = .ok (.aaload, 1) := by decide +kernel
theorem dX3_forgetOldest_30 : decode cX3_forgetOldest 30 = .ok (.aastore, 1) := by decide +kernel
theorem dX3_forgetOldest_31 : decode cX3_forgetOldest 31 = .ok (.aload_n 0, 1) := by decide +kernel
theorem dX3_forgetOldest_32 : decode cX3_forgetOldest 32 = .ok (.getfield 18, 3) := by decide +kernel
theorem dX3_forgetOldest_35 : decode cX3_forgetOldest 35 = .ok (.iconst 2, 1) := by decide +kernel
theorem dX3_forgetOldest_36 : decode cX3_forgetOldest 36 = .ok (.aload_n 1, 1) := by decide +kernel
theorem dX3_forgetOldest_37 : decode cX3_forgetOldest 37 = .ok (.aastore, 1) := by decide +kernel
theorem dX3_forgetOldest_38 : decode cX3_forgetOldest 38 = .ok (.aload_n 0, 1) := by decide +kernel
theorem dX3_forgetOldest_39 : decode cX3_forgetOldest 39 = .ok (.iconst 2, 1) := by decide +kernel
theorem dX3_forgetOldest_40 : decode cX3_forgetOldest 40 = .ok (.putfield 22, 3) := by decide +kernel
theorem dX3_forgetOldest_43 : decode cX3_forgetOldest 43 = .ok (.return_, 1) := by decide +kernel
theorem dX3_goBack_0 : decode cX3_goBack 0 = .ok (.aload_n 0, 1) := by decide +kernel
theorem dX3_goBack_1 : decode cX3_goBack 1 = .ok (.getfield 22, 3) := by decide +kernel
theorem dX3_goBack_4 : decode cX3_goBack 4 = .ok (.ifCond .gt 5, 3) := by decide +kernel
theorem dX3_goBack_7 : decode cX3_goBack 7 = .ok (.iconst 0, 1) := by decide +kernel
theorem dX3_goBack_8 : decode cX3_goBack 8 = .ok (.ireturn, 1) := by decide +kernel
theorem dX3_goBack_9 : decode cX3_goBack 9 = .ok (.aload_n 0, 1) := by decide +kernel
theorem dX3_goBack_10 : decode cX3_goBack 10 = .ok (.dup, 1) := by decide +kernel
theorem dX3_goBack_11 : decode cX3_goBack 11 = .ok (.getfield 22, 3) := by decide +kernel
theorem dX3_goBack_14 : decode cX3_goBack 14 = .ok (.iconst 1, 1) := by decide +kernel
theorem dX3_goBack_15 : decode cX3_goBack 15 = .ok (.isub, 1) := by decide +kernel
theorem dX3_goBack_16 : decode cX3_goBack 16 = .ok (.putfield 22, 3) := by decide +kernel
theorem dX3_goBack_19 : decode cX3_goBack 19 = .ok (.aload_n 0, 1) := by decide +kernel
theorem dX3_goBack_20 : decode cX3_goBack 20 = .ok (.getfield 12, 3) := by decide +kernel
theorem dX3_goBack_23 : decode cX3_goBack 23 = .ok (.aload_n 0, 1) := by decide +kernel
theorem dX3_goBack_24 : decode cX3_goBack 24 = .ok (.getfield 18, 3) := by decide +kernel
theorem dX3_goBack_27 : decode cX3_goBack 27 = .ok (.aload_n 0, 1) := by decide +kernel
theorem dX3_goBack_28 : decode cX3_goBack 28 = .ok (.getfield 22, 3) := by decide +kernel
theorem dX3_goBack_31 : decode cX3_goBack 31 = .ok (.aaload, 1) := by decide +kernel
theorem dX3_goBack_32 : decode cX3_goBack 32 = .ok (.invokevirtual 29, 3) := by decide +kernel
theorem dX3_goBack_35 : decode cX3_goBack 35 = .ok (.iconst 1, 1) := by decide +kernel
theorem dX3_goBack_36 : decode cX3_goBack 36 = .ok (.ireturn, 1) := by decide +kernel
theorem dX3_become_0 : decode cX3_become 0 = .ok (.aload_n 0, 1) := by decide +kernel
theorem dX3_become_1 : decode cX3_become 1 = .ok (.getfield 12, 3) := by decide +kernel
theorem dX3_become_4 : decode cX3_become 4 = .ok (.aload_n 1, 1) := by decide +kernel
theorem dX3_become_5 : decode cX3_become 5 = .ok (.getfield 12, 3) := by decide +kernel
theorem dX3_become_8 : decode cX3_become 8 = .ok (.invokevirtual 29, 3) := by decide +kernel
theorem dX3_become_11 : decode cX3_become 11 = .ok (.aload_n 0, 1) := by decide +kernel
theorem dX3_become_12 : decode cX3_become 12 = .ok (.aload_n 1, 1) := by decide +kernel
theorem dX3_become_13 : decode cX3_become 13 = .ok (.getfield 22, 3) := by decide +kernel
theorem dX3_become_16 : decode cX3_become 16 = .ok (.putfield 22, 3) := by decide +kernel
theorem dX3_become_19 : decode cX3_become 19 = .ok (.iconst 0, 1) := by decide +kernel
theorem dX3_become_20 : decode cX3_become 20 = .ok (.istore_n 2, 1) := by decide +kernel
theorem dX3_become_21 : decode cX3_become 21 = .ok (.iload_n 2, 1) := by decide +kernel
theorem dX3_become_22 : decode cX3_become 22 = .ok (.aload_n 0, 1) := by decide +kernel
theorem dX3_become_23 : decode cX3_become 23 = .ok (.getfield 22, 3) := by decide +kernel
theorem dX3_become_26 : decode cX3_become 26 = .ok (.if_icmp .ge 24, 3) := by decide +kernel
theorem dX3_become_29 : decode cX3_become 29 = .ok (.aload_n 0, 1) := by decide +kernel
theorem dX3_become_30 : decode cX3_become 30 = .ok (.getfield 18, 3) := by decide +kernel
theorem dX3_become_33 : decode cX3_become 33 = .ok (.iload_n 2, 1) := by decide +kernel
theorem dX3_become_34 : decode cX3_become 34 = .ok (.aaload, 1) := by decide +kernel
theorem dX3_become_35 : decode cX3_become 35 = .ok (.aload_n 1, 1) := by decide +kernel
theorem dX3_become_36 : decode cX3_become 36 = .ok (.getfield 18, 3) := by decide +kernel
theorem dX3_become_39 : decode cX3_become 39 = .ok (.iload_n 2, 1) := by decide +kernel
theorem dX3_become_40 : decode cX3_become 40 = .ok (.aaload, 1) := by decide +kernel
theorem dX3_become_41 : decode cX3_become 41 = .ok (.invokevirtual 29, 3) := by decide +kernel
theorem dX3_become_44 : decode cX3_become 44 = .ok (.iinc 2 1, 3) := by decide +kernel
theorem dX3_become_47 : decode cX3_become 47 = .ok (.goto (-26), 3) := by decide +kernel
theorem dX3_become_50 : decode cX3_become 50 = .ok (.return_, 1) := by decide +kernel
theorem dX4_init_0 : decode cX4_init 0 = .ok (.aload_n 0, 1) := by decide +kernel
theorem dX4_init_1 : decode cX4_init 1 = .ok (.invokespecial 1, 3) := by decide +kernel
theorem dX4_init_4 : decode cX4_init 4 = .ok (.aload_n 0, 1) := by decide +kernel
theorem dX4_init_5 : decode cX4_init 5 = .ok (.new 7, 3) := by decide +kernel
theorem dX4_init_8 : decode cX4_init 8 = .ok (.dup, 1) := by decide +kernel
theorem dX4_init_9 : decode cX4_init 9 = .ok (.invokespecial 9, 3) := by decide +kernel
theorem dX4_init_12 : decode cX4_init 12 = .ok (.putfield 10, 3) := by decide +kernel
theorem dX4_init_15 : decode cX4_init 15 = .ok (.aload_n 0, 1) := by decide +kernel
theorem dX4_init_16 : decode cX4_init 16 = .ok (.new 7, 3) := by decide +kernel
theorem dX4_init_19 : decode cX4_init 19 = .ok (.dup, 1) := by decide +kernel
theorem dX4_init_20 : decode cX4_init 20 = .ok (.invokespecial 9, 3) := by decide +kernel
theorem dX4_init_23 : decode cX4_init 23 = .ok (.putfield 16, 3) := by decide +kernel
theorem dX4_init_26 : decode cX4_init 26 = .ok (.aload_n 0, 1) := by decide +kernel
theorem dX4_init_27 : decode cX4_init 27 = .ok (.new 7, 3) := by decide +kernel
theorem dX4_init_30 : decode cX4_init 30 = .ok (.dup, 1) := by decide +kernel
theorem dX4_init_31 : decode cX4_init 31 = .ok (.invokespecial 9, 3) := by decide +kernel
theorem dX4_init_34 : decode cX4_init 34 = .ok (.putfield 19, 3) := by decide +kernel
theorem dX4_init_37 : decode cX4_init 37 = .ok (.aload_n 0, 1) := by decide +kernel
theorem dX4_init_38 : decode cX4_init 38 = .ok (.new 22, 3) := by decide +kernel
theorem dX4_init_41 : decode cX4_init 41 = .ok (.dup, 1) := by decide +kernel
theorem dX4_init_42 : decode cX4_init 42 = .ok (.invokespecial 24, 3) := by decide +kernel
theorem dX4_init_45 : decode cX4_init 45 = .ok (.putfield 25, 3) := by decide +kernel
theorem dX4_init_48 : decode cX4_init 48 = .ok (.aload_n 0, 1) := by decide +kernel
theorem dX4_init_49 : decode cX4_init 49 = .ok (.new 29, 3) := by decide +kernel
theorem dX4_init_52 : decode cX4_init 52 = .ok (.dup, 1) := by decide +kernel
theorem dX4_init_53 : decode cX4_init 53 = .ok (.invokespecial 31, 3) := by decide +kernel
theorem dX4_init_56 : decode cX4_init 56 = .ok (.putfield 32, 3) := by decide +kernel
theorem dX4_init_59 : decode cX4_init 59 = .ok (.aload_n 0, 1) := by decide +kernel
theorem dX4_init_60 : decode cX4_init 60 = .ok (.new 36, 3) := by decide +kernel
theorem dX4_init_63 : decode cX4_init 63 = .ok (.dup, 1) := by decide +kernel
theorem dX4_init_64 : decode cX4_init 64 = .ok (.invokespecial 38, 3) := by decide +kernel
theorem dX4_init_67 : decode cX4_init 67 = .ok (.putfield 39, 3) := by decide +kernel
theorem dX4_init_70 : decode cX4_init 70 = .ok (.return_, 1) := by decide +kernel
theorem dX4_roof_0 : decode cX4_roof 0 = .ok (.iload_n 1, 1) := by decide +kernel
theorem dX4_roof_1 : decode cX4_roof 1 = .ok (.iconst 0, 1) := by decide +kernel
theorem dX4_roof_2 : decode cX4_roof 2 = .ok (.iconst 5, 1) := by decide +kernel
theorem dX4_roof_3 : decode cX4_roof 3 = .ok (.invokestatic 43, 3) := by decide +kernel
theorem dX4_roof_6 : decode cX4_roof 6 = .ok (.ifCond .eq 36, 3) := by decide +kernel
theorem dX4_roof_9 : decode cX4_roof 9 = .ok (.iload_n 2, 1) := by decide +kernel
theorem dX4_roof_10 : decode cX4_roof 10 = .ok (.iconst 0, 1) := by decide +kernel
theorem dX4_roof_11 : decode cX4_roof 11 = .ok (.bipush 9, 2) := by decide +kernel
theorem dX4_roof_13 : decode cX4_roof 13 = .ok (.invokestatic 43, 3) := by decide +kernel
theorem dX4_roof_16 : decode cX4_roof 16 = .ok (.ifCond .eq 26, 3) := by decide +kernel
theorem dX4_roof_19 : decode cX4_roof 19 = .ok (.iload_n 3, 1) := by decide +kernel
theorem dX4_roof_20 : decode cX4_roof 20 = .ok (.iload 4, 2) := by decide +kernel
theorem dX4_roof_22 : decode cX4_roof 22 = .ok (.invokestatic 47, 3) := by decide +kernel
theorem dX4_roof_25 : decode cX4_roof 25 = .ok (.ifCond .eq 17, 3) := by decide +kernel
theorem dX4_roof_28 : decode cX4_roof 28 = .ok (.iload 5, 2) := by decide +kernel
theorem dX4_roof_30 : decode cX4_roof 30 = .ok (.iload 6, 2) := by decide +kernel
theorem dX4_roof_32 : decode cX4_roof 32 = .ok (.invokestatic 47, 3) := by decide +kernel
theorem dX4_roof_35 : decode cX4_roof 35 = .ok (.ifCond .eq 7, 3) := by decide +kernel
theorem dX4_roof_38 : decode cX4_roof 38 = .ok (.iconst 1, 1) := by decide +kernel
theorem dX4_roof_39 : decode cX4_roof 39 = .ok (.goto 4, 3) := by decide +kernel
theorem dX4_roof_42 : decode cX4_roof 42 = .ok (.iconst 0, 1) := by decide +kernel
theorem dX4_roof_43 : decode cX4_roof 43 = .ok (.istore 7, 2) := by decide +kernel
theorem dX4_roof_45 : decode cX4_roof 45 = .ok (.iload 7, 2) := by decide +kernel
theorem dX4_roof_47 : decode cX4_roof 47 = .ok (.ifCond .ne 10, 3) := by decide +kernel
theorem dX4_roof_50 : decode cX4_roof 50 = .ok (.aload_n 0, 1) := by decide +kernel
theorem dX4_roof_51 : decode cX4_roof 51 = .ok (.bipush (-2), 2) := by decide +kernel
theorem dX4_roof_53 : decode cX4_roof 53 = .ok (.invokevirtual 51, 3) := by decide +kernel
theorem dX4_roof_56 : decode cX4_roof 56 = .ok (.ireturn, 1) := by decide +kernel
theorem dX4_roof_57 : decode cX4_roof 57 = .ok (.aload_n 0, 1) := by decide +kernel
theorem dX4_roof_58 : decode cX4_roof 58 = .ok (.getfield 10, 3) := by decide +kernel
theorem dX4_roof_61 : decode cX4_roof 61 = .ok (.getfield 55, 3) := by decide +kernel
theorem dX4_roof_64 : decode cX4_roof 64 = .ok (.getfield 58, 3) := by decide +kernel
theorem dX4_roof_67 : decode cX4_roof 67 = .ok (.bipush 7, 2) := by decide +kernel
theorem dX4_roof_69 : decode cX4_roof 69 = .ok (.if_icmp .lt 10, 3) := by decide +kernel
theorem dX4_roof_72 : decode cX4_roof 72 = .ok (.aload_n 0, 1) := by decide +kernel
theorem dX4_roof_73 : decode cX4_roof 73 = .ok (.bipush (-4), 2) := by decide +kernel
theorem dX4_roof_75 : decode cX4_roof 75 = .ok (.invokevirtual 51, 3) := by decide +kernel
theorem dX4_roof_78 : decode cX4_roof 78 = .ok (.ireturn, 1) := by decide +kernel
theorem dX4_roof_79 : decode cX4_roof 79 = .ok (.aload_n 0, 1) := by decide +kernel
theorem dX4_roof_80 : decode cX4_roof 80 = .ok (.getfield 10, 3) := by decide +kernel
theorem dX4_roof_83 : decode cX4_roof 83 = .ok (.getfield 55, 3) := by decide +kernel
theorem dX4_roof_86 : decode cX4_roof 86 = .ok (.iload_n 1, 1) := by decide +kernel
theorem dX4_roof_87 : decode cX4_roof 87 = .ok (.iload_n 2, 1) := by decide +kernel
theorem dX4_roof_88 : decode cX4_roof 88 = .ok (.iload_n 3, 1) := by decide +kernel
theorem dX4_roof_89 : decode cX4_roof 89 = .ok (.iload 4, 2) := by decide +kernel
theorem dX4_roof_91 : decode cX4_roof 91 = .ok (.iload 5, 2) := by decide +kernel
theorem dX4_roof_93 : decode cX4_roof 93 = .ok (.iload 6, 2) := by decide +kernel
theorem dX4_roof_95 : decode cX4_roof 95 = .ok (.invokevirtual 62, 3) := by decide +kernel
theorem dX4_roof_98 : decode cX4_roof 98 = .ok (.ireturn, 1) := by decide +kernel
theorem dX4_storm_0 : decode cX4_storm 0 = .ok (.iload_n 1, 1) := by decide +kernel
theorem dX4_storm_1 : decode cX4_storm 1 = .ok (.iconst 0, 1) := by decide +kernel
theorem dX4_storm_2 : decode cX4_storm 2 = .ok (.bipush 6, 2) := by decide +kernel
theorem dX4_storm_4 : decode cX4_storm 4 = .ok (.invokestatic 43, 3) := by decide +kernel
theorem dX4_storm_7 : decode cX4_storm 7 = .ok (.ifCond .eq 48, 3) := by decide +kernel
theorem dX4_storm_10 : decode cX4_storm 10 = .ok (.iload_n 2, 1) := by decide +kernel
theorem dX4_storm_11 : decode cX4_storm 11 = .ok (.iload_n 1, 1) := by decide +kernel
theorem dX4_storm_12 : decode cX4_storm 12 = .ok (.bipush 6, 2) := by decide +kernel
theorem dX4_storm_14 : decode cX4_storm 14 = .ok (.invokestatic 43, 3) := by decide +kernel
theorem dX4_storm_17 : decode cX4_storm 17 = .ok (.ifCond .eq 38, 3) := by decide +kernel
theorem dX4_storm_20 : decode cX4_storm 20 = .ok (.iload_n 3, 1) := by decide +kernel
theorem dX4_storm_21 : decode cX4_storm 21 = .ok (.iconst 0, 1) := by decide +kernel
theorem dX4_storm_22 : decode cX4_storm 22 = .ok (.iconst 1, 1) := by decide +kernel
theorem dX4_storm_23 : decode cX4_storm 23 = .ok (.invokestatic 43, 3) := by decide +kernel
theorem dX4_storm_26 : decode cX4_storm 26 = .ok (.ifCond .eq 29, 3) := by decide +kernel
theorem dX4_storm_29 : decode cX4_storm 29 = .ok (.iload 4, 2) := by decide +kernel
theorem dX4_storm_31 : decode cX4_storm 31 = .ok (.iconst 1, 1) := by decide +kernel
theorem dX4_storm_32 : decode cX4_storm 32 = .ok (.bipush 9, 2) := by decide +kernel
theorem dX4_storm_34 : decode cX4_storm 34 = .ok (.invokestatic 43, 3) := by decide +kernel
theorem dX4_storm_37 : decode cX4_storm 37 = .ok (.ifCond .eq 18, 3) := by decide +kernel
theorem dX4_storm_40 : decode cX4_storm 40 = .ok (.iload 5, 2) := by decide +kernel
theorem dX4_storm_42 : decode cX4_storm 42 = .ok (.iconst 1, 1) := by decide +kernel
theorem dX4_storm_43 : decode cX4_storm 43 = .ok (.bipush 9, 2) := by decide +kernel
theorem dX4_storm_45 : decode cX4_storm 45 = .ok (.invokestatic 43, 3) := by decide +kernel
theorem dX4_storm_48 : decode cX4_storm 48 = .ok (.ifCond .eq 7, 3) := by decide +kernel
theorem dX4_storm_51 : decode cX4_storm 51 = .ok (.iconst 1, 1) := by decide +kernel
theorem dX4_storm_52 : decode cX4_storm 52 = .ok (.goto 4, 3) := by decide +kernel
theorem dX4_storm_55 : decode cX4_storm 55 = .ok (.iconst 0, 1) := by decide +kernel
theorem dX4_storm_56 : decode cX4_storm 56 = .ok (.istore 6, 2) := by decide +kernel
theorem dX4_storm_58 : decode cX4_storm 58 = .ok (.iload 6, 2) := by decide +kernel
theorem dX4_storm_60 : decode cX4_storm 60 = .ok (.ifCond .ne 10, 3) := by decide +kernel
theorem dX4_storm_63 : decode cX4_storm 63 = .ok (.aload_n 0, 1) := by decide +kernel
theorem dX4_storm_64 : decode cX4_storm 64 = .ok (.bipush (-2), 2) := by decide +kernel
theorem dX4_storm_66 : decode cX4_storm 66 = .ok (.invokevirtual 51, 3) := by decide +kernel
theorem dX4_storm_69 : decode cX4_storm 69 = .ok (.ireturn, 1) := by decide +kernel
theorem dX4_storm_70 : decode cX4_storm 70 = .ok (.aload_n 0, 1) := by decide +kernel
theorem dX4_storm_71 : decode cX4_storm 71 = .ok (.getfield 10, 3) := by decide +kernel
theorem dX4_storm_74 : decode cX4_storm 74 = .ok (.getfield 55, 3) := by decide +kernel
theorem dX4_storm_77 : decode cX4_storm 77 = .ok (.getfield 66, 3) := by decide +kernel
theorem dX4_storm_80 : decode cX4_storm 80 = .ok (.bipush 6, 2) := by decide +kernel
theorem dX4_storm_82 : decode cX4_storm 82 = .ok (.if_icmp .lt 10, 3) := by decide +kernel
theorem dX4_storm_85 : decode cX4_storm 85 = .ok (.aload_n 0, 1) := by decide +kernel
theorem dX4_storm_86 : decode cX4_storm 86 = .ok (.bipush (-4), 2) := by decide +kernel
theorem dX4_storm_88 : decode cX4_storm 88 = .ok (.invokevirtual 51, 3) := by decide +kernel
theorem dX4_storm_91 : decode cX4_storm 91 = .ok (.ireturn, 1) := by decide +kernel
theorem dX4_storm_92 : decode cX4_storm 92 = .ok (.aload_n 0, 1) := by decide +kernel
theorem dX4_storm_93 : decode cX4_storm 93 = .ok (.getfield 10, 3) := by decide +kernel
theorem dX4_storm_96 : decode cX4_storm 96 = .ok (.getfield 55, 3) := by decide +kernel
theorem dX4_storm_99 : decode cX4_storm 99 = .ok (.iload_n 1, 1) := by decide +kernel
theorem dX4_storm_100 : decode cX4_storm 100 = .ok (.iload_n 2, 1) := by decide +kernel
theorem dX4_storm_101 : decode cX4_storm 101 = .ok (.iload_n 3, 1) := by decide +kernel
theorem dX4_storm_102 : decode cX4_storm 102 = .ok (.iload 4, 2) := by decide +kernel
theorem dX4_storm_104 : decode cX4_storm 104 = .ok (.iload 5, 2) := by decide +kernel
theorem dX4_storm_106 : decode cX4_storm 106 = .ok (.invokevirtual 69, 3) := by decide +kernel
theorem dX4_storm_109 : decode cX4_storm 109 = .ok (.ireturn, 1) := by decide +kernel
theorem dX4_cannon_0 : decode cX4_cannon 0 = .ok (.iload_n 1, 1) := by decide +kernel
theorem dX4_cannon_1 : decode cX4_cannon 1 = .ok (.iconst 0, 1) := by decide +kernel
theorem dX4_cannon_2 : decode cX4_cannon 2 = .ok (.bipush 6, 2) := by decide +kernel
theorem dX4_cannon_4 : decode cX4_cannon 4 = .ok (.invokestatic 43, 3) := by decide +kernel
theorem dX4_cannon_7 : decode cX4_cannon 7 = .ok (.ifCond .ne 10, 3) := by decide +kernel
theorem dX4_cannon_10 : decode cX4_cannon 10 = .ok (.aload_n 0, 1) := by decide +kernel
theorem dX4_cannon_11 : decode cX4_cannon 11 = .ok (.bipush (-2), 2) := by decide +kernel
theorem dX4_cannon_13 : decode cX4_cannon 13 = .ok (.invokevirtual 51, 3) := by decide +kernel
theorem dX4_cannon_16 : decode cX4_cannon 16 = .ok (.ireturn, 1) := by decide +kernel
theorem dX4_cannon_17 : decode cX4_cannon 17 = .ok (.iload_n 2, 1) := by decide +kernel
theorem dX4_cannon_18 : decode cX4_cannon 18 = .ok (.ifCond .eq 7, 3) := by decide +kernel
theorem dX4_cannon_21 : decode cX4_cannon 21 = .ok (.iconst 1, 1) := by decide +kernel
theorem dX4_cannon_22 : decode cX4_cannon 22 = .ok (.goto 4, 3) := by decide +kernel
theorem dX4_cannon_25 : decode cX4_cannon 25 = .ok (.iconst 0, 1) := by decide +kernel
theorem dX4_cannon_26 : decode cX4_cannon 26 = .ok (.istore_n 3, 1) := by decide +kernel
theorem dX4_cannon_27 : decode cX4_cannon 27 = .ok (.aload_n 0, 1) := by decide +kernel
theorem dX4_cannon_28 : decode cX4_cannon 28 = .ok (.getfield 10, 3) := by decide +kernel
theorem dX4_cannon_31 : decode cX4_cannon 31 = .ok (.getfield 55, 3) := by decide +kernel
theorem dX4_cannon_34 : decode cX4_cannon 34 = .ok (.getfield 73, 3) := by decide +kernel
theorem dX4_cannon_37 : decode cX4_cannon 37 = .ok (.iload_n 1, 1) := by decide +kernel
theorem dX4_cannon_38 : decode cX4_cannon 38 = .ok (.iaload, 1) := by decide +kernel
theorem dX4_cannon_39 : decode cX4_cannon 39 = .ok (.iload_n 3, 1) := by decide +kernel
theorem dX4_cannon_40 : decode cX4_cannon 40 = .ok (.if_icmp .ne 10, 3) := by decide +kernel
theorem dX4_cannon_43 : decode cX4_cannon 43 = .ok (.aload_n 0, 1) := by decide +kernel
theorem dX4_cannon_44 : decode cX4_cannon 44 = .ok (.bipush (-3), 2) := by decide +kernel
theorem dX4_cannon_46 : decode cX4_cannon 46 = .ok (.invokevirtual 51, 3) := by decide +kernel
theorem dX4_cannon_49 : decode cX4_cannon 49 = .ok (.ireturn, 1) := by decide +kernel
theorem dX4_cannon_50 : decode cX4_cannon 50 = .ok (.aload_n 0, 1) := by decide +kernel
theorem dX4_cannon_51 : decode cX4_cannon 51 = .ok (.getfield 10, 3) := by decide +kernel
theorem dX4_cannon_54 : decode cX4_cannon 54 = .ok (.getfield 55, 3) := by decide +kernel
theorem dX4_cannon_57 : decode cX4_cannon 57 = .ok (.getfield 73, 3) := by decide +kernel
theorem dX4_cannon_60 : decode cX4_cannon 60 = .ok (.iload_n 1, 1) := by decide +kernel
theorem dX4_cannon_61 : decode cX4_cannon 61 = .ok (.iload_n 3, 1) := by decide +kernel
theorem dX4_cannon_62 : decode cX4_cannon 62 = .ok (.iastore, 1) := by decide +kernel
theorem dX4_cannon_63 : decode cX4_cannon 63 = .ok (.iconst 1, 1) := by decide +kernel
theorem dX4_cannon_64 : decode cX4_cannon 64 = .ok (.ireturn, 1) := by decide +kernel
theorem dX4_tiles_0 : decode cX4_tiles 0 = .ok (.aload_n 0, 1) := by decide +kernel
theorem dX4_tiles_1 : decode cX4_tiles 1 = .ok (.iload_n 1, 1) := by decide +kernel
theorem dX4_tiles_2 : decode cX4_tiles 2 = .ok (.invokevirtual 77, 3) := by decide +kernel
theorem dX4_tiles_5 : decode cX4_tiles 5 = .ok (.ifCond .eq 19, 3) := by decide +kernel
theorem dX4_tiles_8 : decode cX4_tiles 8 = .ok (.iload_n 2, 1) := by decide +kernel
theorem dX4_tiles_9 : decode cX4_tiles 9 = .ok (.iconst 0, 1) := by decide +kernel
theorem dX4_tiles_10 : decode cX4_tiles 10 = .ok (.iconst 1, 1) := by decide +kernel
theorem dX4_tiles_11 : decode cX4_tiles 11 = .ok (.invokestatic 43, 3) := by decide +kernel
theorem dX4_tiles_14 : decode cX4_tiles 14 = .ok (.ifCond .eq 10, 3) := by decide +kernel
theorem dX4_tiles_17 : decode cX4_tiles 17 = .ok (.iload_n 3, 1) := by decide +kernel
theorem dX4_tiles_18 : decode cX4_tiles 18 = .ok (.invokestatic 81, 3) := by decide +kernel
theorem dX4_tiles_21 : decode cX4_tiles 21 = .ok (.ifCond .ne 10, 3) := by decide +kernel
theorem dX4_tiles_24 : decode cX4_tiles 24 = .ok (.aload_n 0, 1) := by decide +kernel
theorem dX4_tiles_25 : decode cX4_tiles 25 = .ok (.bipush (-2), 2) := by decide +kernel
theorem dX4_tiles_27 : decode cX4_tiles 27 = .ok (.invokevirtual 51, 3) := by decide +kernel
theorem dX4_tiles_30 : decode cX4_tiles 30 = .ok (.ireturn, 1) := by decide +kernel
theorem dX4_tiles_31 : decode cX4_tiles 31 = .ok (.aload_n 0, 1) := by decide +kernel
theorem dX4_tiles_32 : decode cX4_tiles 32 = .ok (.getfield 10, 3) := by decide +kernel
theorem dX4_tiles_35 : decode cX4_tiles 35 = .ok (.getfield 55, 3) := by decide +kernel
theorem dX4_tiles_38 : decode cX4_tiles 38 = .ok (.getfield 84, 3) := by decide +kernel
theorem dX4_tiles_41 : decode cX4_tiles 41 = .ok (.iload_n 1, 1) := by decide +kernel
theorem dX4_tiles_42 : decode cX4_tiles 42 = .ok (.iload_n 2, 1) := by decide +kernel
theorem dX4_tiles_43 : decode cX4_tiles 43 = .ok (.iload_n 3, 1) := by decide +kernel
theorem dX4_tiles_44 : decode cX4_tiles 44 = .ok (.invokestatic 87, 3) := by decide +kernel
theorem dX4_tiles_47 : decode cX4_tiles 47 = .ok (.iaload, 1) := by decide +kernel
theorem dX4_tiles_48 : decode cX4_tiles 48 = .ok (.ireturn, 1) := by decide +kernel
theorem dX4_type_0 : decode cX4_type 0 = .ok (.iload_n 3, 1) := by decide +kernel
theorem dX4_type_1 : decode cX4_type 1 = .ok (.iconst 1, 1) := by decide +kernel
theorem dX4_type_2 : decode cX4_type 2 = .ok (.bipush 8, 2) := by decide +kernel
theorem dX4_type_4 : decode cX4_type 4 = .ok (.invokestatic 43, 3) := by decide +kernel
theorem dX4_type_7 : decode cX4_type 7 = .ok (.ifCond .ne 10, 3) := by decide +kernel
theorem dX4_type_10 : decode cX4_type 10 = .ok (.aload_n 0, 1) := by decide +kernel
theorem dX4_type_11 : decode cX4_type 11 = .ok (.bipush (-2), 2) := by decide +kernel
theorem dX4_type_13 : decode cX4_type 13 = .ok (.invokevirtual 51, 3) := by decide +kernel
theorem dX4_type_16 : decode cX4_type 16 = .ok (.ireturn, 1) := by decide +kernel
theorem dX4_type_17 : decode cX4_type 17 = .ok (.aload_n 0, 1) := by decide +kernel
theorem dX4_type_18 : decode cX4_type 18 = .ok (.getfield 25, 3) := by decide +kernel
theorem dX4_type_21 : decode cX4_type 21 = .ok (.getfield 91, 3) := by decide +kernel
theorem dX4_type_24 : decode cX4_type 24 = .ok (.iload_n 3, 1) := by decide +kernel
theorem dX4_type_25 : decode cX4_type 25 = .ok (.iadd, 1) := by decide +kernel
theorem dX4_type_26 : decode cX4_type 26 = .ok (.sipush 250, 3) := by decide +kernel
theorem dX4_type_29 : decode cX4_type 29 = .ok (.if_icmp .le 10, 3) := by decide +kernel
theorem dX4_type_32 : decode cX4_type 32 = .ok (.aload_n 0, 1) := by decide +kernel
theorem dX4_type_33 : decode cX4_type 33 = .ok (.bipush (-4), 2) := by decide +kernel
theorem dX4_type_35 : decode cX4_type 35 = .ok (.invokevirtual 51, 3) := by decide +kernel
theorem dX4_type_38 : decode cX4_type 38 = .ok (.ireturn, 1) := by decide +kernel
theorem dX4_type_39 : decode cX4_type 39 = .ok (.iload_n 3, 1) := by decide +kernel
theorem dX4_type_40 : decode cX4_type 40 = .ok (.iconst 1, 1) := by decide +kernel
theorem dX4_type_41 : decode cX4_type 41 = .ok (.isub, 1) := by decide +kernel
theorem dX4_type_42 : decode cX4_type 42 = .ok (.istore 4, 2) := by decide +kernel
theorem dX4_type_44 : decode cX4_type 44 = .ok (.iload 4, 2) := by decide +kernel
theorem dX4_type_46 : decode cX4_type 46 = .ok (.ifCond .lt 28, 3) := by decide +kernel
theorem dX4_type_49 : decode cX4_type 49 = .ok (.aload_n 0, 1) := by decide +kernel
theorem dX4_type_50 : decode cX4_type 50 = .ok (.getfield 25, 3) := by decide +kernel
theorem dX4_type_53 : decode cX4_type 53 = .ok (.lload_n 1, 1) := by decide +kernel
theorem dX4_type_54 : decode cX4_type 54 = .ok (.bipush 8, 2) := by decide +kernel
theorem dX4_type_56 : decode cX4_type 56 = .ok (.iload 4, 2) := by decide +kernel
theorem dX4_type_58 : decode cX4_type 58 = .ok (.imul, 1) := by decide +kernel
theorem dX4_type_59 : decode cX4_type 59 = .ok (.lushr, 1) := by decide +kernel
theorem dX4_type_60 : decode cX4_type 60 = .ok (.l2i, 1) := by decide +kernel
theorem dX4_type_61 : decode cX4_type 61 = .ok (.sipush 255, 3) := by decide +kernel
theorem dX4_type_64 : decode cX4_type 64 = .ok (.iand, 1) := by decide +kernel
theorem dX4_type_65 : decode cX4_type 65 = .ok (.invokevirtual 94, 3) := by decide +kernel
theorem dX4_type_68 : decode cX4_type 68 = .ok (.iinc 4 (-1), 3) := by decide +kernel
theorem dX4_type_71 : decode cX4_type 71 = .ok (.goto (-27), 3) := by decide +kernel
theorem dX4_type_74 : decode cX4_type 74 = .ok (.aload_n 0, 1) := by decide +kernel
theorem dX4_type_75 : decode cX4_type 75 = .ok (.getfield 25, 3) := by decide +kernel
theorem dX4_type_78 : decode cX4_type 78 = .ok (.getfield 91, 3) := by decide +kernel
theorem dX4_type_81 : decode cX4_type 81 = .ok (.ireturn, 1) := by decide +kernel
theorem dX4_clear_0 : decode cX4_clear 0 = .ok (.aload_n 0, 1) := by decide +kernel
theorem dX4_clear_1 : decode cX4_clear 1 = .ok (.getfield 25, 3) := by decide +kernel
theorem dX4_clear_4 : decode cX4_clear 4 = .ok (.getfield 91, 3) := by decide +kernel
theorem dX4_clear_7 : decode cX4_clear 7 = .ok (.istore_n 1, 1) := by decide +kernel
theorem dX4_clear_8 : decode cX4_clear 8 = .ok (.aload_n 0, 1) := by decide +kernel
theorem dX4_clear_9 : decode cX4_clear 9 = .ok (.getfield 25, 3) := by decide +kernel
theorem dX4_clear_12 : decode cX4_clear 12 = .ok (.iconst 0, 1) := by decide +kernel
theorem dX4_clear_13 : decode cX4_clear 13 = .ok (.putfield 91, 3) := by decide +kernel
theorem dX4_clear_16 : decode cX4_clear 16 = .ok (.iload_n 1, 1) := by decide +kernel
theorem dX4_clear_17 : decode cX4_clear 17 = .ok (.ireturn, 1) := by decide +kernel
theorem dX4_read_0 : decode cX4_read 0 = .ok (.aload_n 0, 1) := by decide +kernel
theorem dX4_read_1 : decode cX4_read 1 = .ok (.getfield 25, 3) := by decide +kernel
theorem dX4_read_4 : decode cX4_read 4 = .ok (.aload_n 0, 1) := by decide +kernel
theorem dX4_read_5 : decode cX4_read 5 = .ok (.getfield 39, 3) := by decide +kernel
theorem dX4_read_8 : decode cX4_read 8 = .ok (.invokevirtual 98, 3) := by decide +kernel
theorem dX4_read_11 : decode cX4_read 11 = .ok (.istore_n 1, 1) := by decide +kernel
theorem dX4_read_12 : decode cX4_read 12 = .ok (.iload_n 1, 1) := by decide +kernel
theorem dX4_read_13 : decode cX4_read 13 = .ok (.ifCond .ge 5, 3) := by decide +kernel
theorem dX4_read_16 : decode cX4_read 16 = .ok (.iload_n 1, 1) := by decide +kernel
theorem dX4_read_17 : decode cX4_read 17 = .ok (.ireturn, 1) := by decide +kernel
theorem dX4_read_18 : decode cX4_read 18 = .ok (.aload_n 0, 1) := by decide +kernel
theorem dX4_read_19 : decode cX4_read 19 = .ok (.getfield 10, 3) := by decide +kernel
theorem dX4_read_22 : decode cX4_read 22 = .ok (.getfield 55, 3) := by decide +kernel
theorem dX4_read_25 : decode cX4_read 25 = .ok (.aload_n 0, 1) := by decide +kernel
theorem dX4_read_26 : decode cX4_read 26 = .ok (.getfield 39, 3) := by decide +kernel
theorem dX4_read_29 : decode cX4_read 29 = .ok (.invokevirtual 102, 3) := by decide +kernel
theorem dX4_read_32 : decode cX4_read 32 = .ok (.aload_n 0, 1) := by decide +kernel
theorem dX4_read_33 : decode cX4_read 33 = .ok (.getfield 10, 3) := by decide +kernel
theorem dX4_read_36 : decode cX4_read 36 = .ok (.iconst 0, 1) := by decide +kernel
theorem dX4_read_37 : decode cX4_read 37 = .ok (.putfield 106, 3) := by decide +kernel
theorem dX4_read_40 : decode cX4_read 40 = .ok (.iload_n 1, 1) := by decide +kernel
theorem dX4_read_41 : decode cX4_read 41 = .ok (.ireturn, 1) := by decide +kernel
theorem dX4_force_0 : decode cX4_force 0 = .ok (.aload_n 0, 1) := by decide +kernel
theorem dX4_force_1 : decode cX4_force 1 = .ok (.iload_n 1, 1) := by decide +kernel
theorem dX4_force_2 : decode cX4_force 2 = .ok (.invokevirtual 109, 3) := by decide +kernel
theorem dX4_force_5 : decode cX4_force 5 = .ok (.ifCond .eq 20, 3) := by decide +kernel
theorem dX4_force_8 : decode cX4_force 8 = .ok (.aload_n 0, 1) := by decide +kernel
theorem dX4_force_9 : decode cX4_force 9 = .ok (.iload_n 2, 1) := by decide +kernel
theorem dX4_force_10 : decode cX4_force 10 = .ok (.invokevirtual 77, 3) := by decide +kernel
theorem dX4_force_13 : decode cX4_force 13 = .ok (.ifCond .eq 12, 3) := by decide +kernel
theorem dX4_force_16 : decode cX4_force 16 = .ok (.iload_n 3, 1) := by decide +kernel
theorem dX4_force_17 : decode cX4_force 17 = .ok (.iconst 0, 1) := by decide +kernel
theorem dX4_force_18 : decode cX4_force 18 = .ok (.iconst 1, 1) := by decide +kernel
theorem dX4_force_19 : decode cX4_force 19 = .ok (.invokestatic 43, 3) := by decide +kernel
theorem dX4_force_22 : decode cX4_force 22 = .ok (.ifCond .ne 10, 3) := by decide +kernel
theorem dX4_force_25 : decode cX4_force 25 = .ok (.aload_n 0, 1) := by decide +kernel
theorem dX4_force_26 : decode cX4_force 26 = .ok (.bipush (-2), 2) := by decide +kernel
theorem dX4_force_28 : decode cX4_force 28 = .ok (.invokevirtual 51, 3) := by decide +kernel
theorem dX4_force_31 : decode cX4_force 31 = .ok (.ireturn, 1) := by decide +kernel
theorem dX4_force_32 : decode cX4_force 32 = .ok (.aload_n 0, 1) := by decide +kernel
theorem dX4_force_33 : decode cX4_force 33 = .ok (.getfield 10, 3) := by decide +kernel
theorem dX4_force_36 : decode cX4_force 36 = .ok (.getfield 55, 3) := by decide +kernel
theorem dX4_force_39 : decode cX4_force 39 = .ok (.iload_n 1, 1) := by decide +kernel
theorem dX4_force_40 : decode cX4_force 40 = .ok (.iload_n 2, 1) := by decide +kernel
theorem dX4_force_41 : decode cX4_force 41 = .ok (.iload_n 3, 1) := by decide +kernel
theorem dX4_force_42 : decode cX4_force 42 = .ok (.invokevirtual 112, 3) := by decide +kernel
theorem dX4_force_45 : decode cX4_force 45 = .ok (.ireturn, 1) := by decide +kernel
theorem dX4_breaks_0 : decode cX4_breaks 0 = .ok (.aload_n 0, 1) := by decide +kernel
theorem dX4_breaks_1 : decode cX4_breaks 1 = .ok (.iload_n 1, 1) := by decide +kernel
theorem dX4_breaks_2 : decode cX4_breaks 2 = .ok (.invokevirtual 109, 3) := by decide +kernel
theorem dX4_breaks_5 : decode cX4_breaks 5 = .ok (.ifCond .eq 23, 3) := by decide +kernel
theorem dX4_breaks_8 : decode cX4_breaks 8 = .ok (.iload_n 2, 1) := by decide +kernel
theorem dX4_breaks_9 : decode cX4_breaks 9 = .ok (.iconst (-1), 1) := by decide +kernel
theorem dX4_breaks_10 : decode cX4_breaks 10 = .ok (.if_icmp .eq 11, 3) := by decide +kernel
theorem dX4_breaks_13 : decode cX4_breaks 13 = .ok (.aload_n 0, 1) := by decide +kernel
theorem dX4_breaks_14 : decode cX4_breaks 14 = .ok (.iload_n 2, 1) := by decide +kernel
theorem dX4_breaks_15 : decode cX4_breaks 15 = .ok (.invokevirtual 77, 3) := by decide +kernel
theorem dX4_breaks_18 : decode cX4_breaks 18 = .ok (.ifCond .eq 10, 3) := by decide +kernel
theorem dX4_breaks_21 : decode cX4_breaks 21 = .ok (.iload_n 3, 1) := by decide +kernel
theorem dX4_breaks_22 : decode cX4_breaks 22 = .ok (.invokestatic 81, 3) := by decide +kernel
theorem dX4_breaks_25 : decode cX4_breaks 25 = .ok (.ifCond .ne 10, 3) := by decide +kernel
theorem dX4_breaks_28 : decode cX4_breaks 28 = .ok (.aload_n 0, 1) := by decide +kernel
theorem dX4_breaks_29 : decode cX4_breaks 29 = .ok (.bipush (-2), 2) := by decide +kernel
theorem dX4_breaks_31 : decode cX4_breaks 31 = .ok (.invokevirtual 51, 3) := by decide +kernel
theorem dX4_breaks_34 : decode cX4_breaks 34 = .ok (.ireturn, 1) := by decide +kernel
theorem dX4_breaks_35 : decode cX4_breaks 35 = .ok (.iload_n 2, 1) := by decide +kernel
theorem dX4_breaks_36 : decode cX4_breaks 36 = .ok (.iconst (-1), 1) := by decide +kernel
theorem dX4_breaks_37 : decode cX4_breaks 37 = .ok (.if_icmp .ne 18, 3) := by decide +kernel
theorem dX4_breaks_40 : decode cX4_breaks 40 = .ok (.aload_n 0, 1) := by decide +kernel
theorem dX4_breaks_41 : decode cX4_breaks 41 = .ok (.getfield 10, 3) := by decide +kernel
theorem dX4_breaks_44 : decode cX4_breaks 44 = .ok (.getfield 55, 3) := by decide +kernel
theorem dX4_breaks_47 : decode cX4_breaks 47 = .ok (.iload_n 1, 1) := by decide +kernel
theorem dX4_breaks_48 : decode cX4_breaks 48 = .ok (.iload_n 3, 1) := by decide +kernel
theorem dX4_breaks_49 : decode cX4_breaks 49 = .ok (.invokevirtual 115, 3) := by decide +kernel
theorem dX4_breaks_52 : decode cX4_breaks 52 = .ok (.goto 16, 3) := by decide +kernel
theorem dX4_breaks_55 : decode cX4_breaks 55 = .ok (.aload_n 0, 1) := by decide +kernel
theorem dX4_breaks_56 : decode cX4_breaks 56 = .ok (.getfield 10, 3) := by decide +kernel
theorem dX4_breaks_59 : decode cX4_breaks 59 = .ok (.getfield 55, 3) := by decide +kernel
theorem dX4_breaks_62 : decode cX4_breaks 62 = .ok (.iload_n 1, 1) := by decide +kernel
theorem dX4_breaks_63 : decode cX4_breaks 63 = .ok (.iload_n 2, 1) := by decide +kernel
theorem dX4_breaks_64 : decode cX4_breaks 64 = .ok (.iload_n 3, 1) := by decide +kernel
theorem dX4_breaks_65 : decode cX4_breaks 65 = .ok (.invokevirtual 119, 3) := by decide +kernel
theorem dX4_breaks_68 : decode cX4_breaks 68 = .ok (.ireturn, 1) := by decide +kernel
theorem dX4_wins_0 : decode cX4_wins 0 = .ok (.aload_n 0, 1) := by decide +kernel
theorem dX4_wins_1 : decode cX4_wins 1 = .ok (.iload_n 1, 1) := by decide +kernel
theorem dX4_wins_2 : decode cX4_wins 2 = .ok (.invokevirtual 109, 3) := by decide +kernel
theorem dX4_wins_5 : decode cX4_wins 5 = .ok (.ifCond .ne 10, 3) := by decide +kernel
theorem dX4_wins_8 : decode cX4_wins 8 = .ok (.aload_n 0, 1) := by decide +kernel
theorem dX4_wins_9 : decode cX4_wins 9 = .ok (.bipush (-2), 2) := by decide +kernel
theorem dX4_wins_11 : decode cX4_wins 11 = .ok (.invokevirtual 51, 3) := by decide +kernel
theorem dX4_wins_14 : decode cX4_wins 14 = .ok (.ireturn, 1) := by decide +kernel
theorem dX4_wins_15 : decode cX4_wins 15 = .ok (.aload_n 0, 1) := by decide +kernel
theorem dX4_wins_16 : decode cX4_wins 16 = .ok (.getfield 10, 3) := by decide +kernel
theorem dX4_wins_19 : decode cX4_wins 19 = .ok (.getfield 55, 3) := by decide +kernel
theorem dX4_wins_22 : decode cX4_wins 22 = .ok (.iload_n 1, 1) := by decide +kernel
theorem dX4_wins_23 : decode cX4_wins 23 = .ok (.invokevirtual 122, 3) := by decide +kernel
theorem dX4_wins_26 : decode cX4_wins 26 = .ok (.invokestatic 125, 3) := by decide +kernel
theorem dX4_wins_29 : decode cX4_wins 29 = .ok (.ireturn, 1) := by decide +kernel
theorem dX4_odds_0 : decode cX4_odds 0 = .ok (.iload_n 1, 1) := by decide +kernel
theorem dX4_odds_1 : decode cX4_odds 1 = .ok (.iconst 0, 1) := by decide +kernel
theorem dX4_odds_2 : decode cX4_odds 2 = .ok (.iconst 2, 1) := by decide +kernel
theorem dX4_odds_3 : decode cX4_odds 3 = .ok (.invokestatic 43, 3) := by decide +kernel
theorem dX4_odds_6 : decode cX4_odds 6 = .ok (.ifCond .ne 10, 3) := by decide +kernel
theorem dX4_odds_9 : decode cX4_odds 9 = .ok (.aload_n 0, 1) := by decide +kernel
theorem dX4_odds_10 : decode cX4_odds 10 = .ok (.bipush (-2), 2) := by decide +kernel
theorem dX4_odds_12 : decode cX4_odds 12 = .ok (.invokevirtual 51, 3) := by decide +kernel
theorem dX4_odds_15 : decode cX4_odds 15 = .ok (.ireturn, 1) := by decide +kernel
theorem dX4_odds_16 : decode cX4_odds 16 = .ok (.aload_n 0, 1) := by decide +kernel
theorem dX4_odds_17 : decode cX4_odds 17 = .ok (.getfield 10, 3) := by decide +kernel
theorem dX4_odds_20 : decode cX4_odds 20 = .ok (.getfield 55, 3) := by decide +kernel
theorem dX4_odds_23 : decode cX4_odds 23 = .ok (.getfield 66, 3) := by decide +kernel
theorem dX4_odds_26 : decode cX4_odds 26 = .ok (.ifCond .ne 10, 3) := by decide +kernel
theorem dX4_odds_29 : decode cX4_odds 29 = .ok (.aload_n 0, 1) := by decide +kernel
theorem dX4_odds_30 : decode cX4_odds 30 = .ok (.bipush (-3), 2) := by decide +kernel
theorem dX4_odds_32 : decode cX4_odds 32 = .ok (.invokevirtual 51, 3) := by decide +kernel
theorem dX4_odds_35 : decode cX4_odds 35 = .ok (.ireturn, 1) := by decide +kernel
theorem dX4_odds_36 : decode cX4_odds 36 = .ok (.iload_n 1, 1) := by decide +kernel
theorem dX4_odds_37 : decode cX4_odds 37 = .ok (.iconst 2, 1) := by decide +kernel
theorem dX4_odds_38 : decode cX4_odds 38 = .ok (.if_icmp .ne 7, 3) := by decide +kernel
theorem dX4_odds_41 : decode cX4_odds 41 = .ok (.iconst (-1), 1) := by decide +kernel
theorem dX4_odds_42 : decode cX4_odds 42 = .ok (.goto 4, 3) := by decide +kernel
theorem dX4_odds_45 : decode cX4_odds 45 = .ok (.iload_n 1, 1) := by decide +kernel
theorem dX4_odds_46 : decode cX4_odds 46 = .ok (.istore_n 2, 1) := by decide +kernel
theorem dX4_odds_47 : decode cX4_odds 47 = .ok (.aload_n 0, 1) := by decide +kernel
theorem dX4_odds_48 : decode cX4_odds 48 = .ok (.getfield 32, 3) := by decide +kernel
theorem dX4_odds_51 : decode cX4_odds 51 = .ok (.aload_n 0, 1) := by decide +kernel
theorem dX4_odds_52 : decode cX4_odds 52 = .ok (.getfield 10, 3) := by decide +kernel
theorem dX4_odds_55 : decode cX4_odds 55 = .ok (.getfield 55, 3) := by decide +kernel
theorem dX4_odds_58 : decode cX4_odds 58 = .ok (.iload_n 2, 1) := by decide +kernel
theorem dX4_odds_59 : decode cX4_odds 59 = .ok (.invokevirtual 128, 3) := by decide +kernel
theorem dX4_odds_62 : decode cX4_odds 62 = .ok (.i2l, 1) := by decide +kernel
theorem dX4_odds_63 : decode cX4_odds 63 = .ok (.aload_n 0, 1) := by decide +kernel
theorem dX4_odds_64 : decode cX4_odds 64 = .ok (.getfield 10, 3) := by decide +kernel
theorem dX4_odds_67 : decode cX4_odds 67 = .ok (.getfield 55, 3) := by decide +kernel
theorem dX4_odds_70 : decode cX4_odds 70 = .ok (.invokevirtual 131, 3) := by decide +kernel
theorem dX4_odds_73 : decode cX4_odds 73 = .ok (.i2l, 1) := by decide +kernel
theorem dX4_odds_74 : decode cX4_odds 74 = .ok (.invokevirtual 135, 3) := by decide +kernel
theorem dX4_odds_77 : decode cX4_odds 77 = .ok (.iconst 1, 1) := by decide +kernel
theorem dX4_odds_78 : decode cX4_odds 78 = .ok (.ireturn, 1) := by decide +kernel
theorem dX4_paint_0 : decode cX4_paint 0 = .ok (.iload_n 1, 1) := by decide +kernel
theorem dX4_paint_1 : decode cX4_paint 1 = .ok (.invokestatic 81, 3) := by decide +kernel
theorem dX4_paint_4 : decode cX4_paint 4 = .ok (.ifCond .eq 12, 3) := by decide +kernel
theorem dX4_paint_7 : decode cX4_paint 7 = .ok (.iload_n 2, 1) := by decide +kernel
theorem dX4_paint_8 : decode cX4_paint 8 = .ok (.iconst 0, 1) := by decide +kernel
theorem dX4_paint_9 : decode cX4_paint 9 = .ok (.iconst 4, 1) := by decide +kernel
theorem dX4_paint_10 : decode cX4_paint 10 = .ok (.invokestatic 43, 3) := by decide +kernel
theorem dX4_paint_13 : decode cX4_paint 13 = .ok (.ifCond .ne 10, 3) := by decide +kernel
theorem dX4_paint_16 : decode cX4_paint 16 = .ok (.aload_n 0, 1) := by decide +kernel
theorem dX4_paint_17 : decode cX4_paint 17 = .ok (.bipush (-2), 2) := by decide +kernel
theorem dX4_paint_19 : decode cX4_paint 19 = .ok (.invokevirtual 51, 3) := by decide +kernel
theorem dX4_paint_22 : decode cX4_paint 22 = .ok (.ireturn, 1) := by decide +kernel
theorem dX4_paint_23 : decode cX4_paint 23 = .ok (.aload_n 0, 1) := by decide +kernel
theorem dX4_paint_24 : decode cX4_paint 24 = .ok (.getfield 10, 3) := by decide +kernel
theorem dX4_paint_27 : decode cX4_paint 27 = .ok (.getfield 55, 3) := by decide +kernel
theorem dX4_paint_30 : decode cX4_paint 30 = .ok (.getfield 66, 3) := by decide +kernel
theorem dX4_paint_33 : decode cX4_paint 33 = .ok (.ifCond .ne 10, 3) := by decide +kernel
theorem dX4_paint_36 : decode cX4_paint 36 = .ok (.aload_n 0, 1) := by decide +kernel
theorem dX4_paint_37 : decode cX4_paint 37 = .ok (.bipush (-3), 2) := by decide +kernel
theorem dX4_paint_39 : decode cX4_paint 39 = .ok (.invokevirtual 51, 3) := by decide +kernel
theorem dX4_paint_42 : decode cX4_paint 42 = .ok (.ireturn, 1) := by decide +kernel
theorem dX4_paint_43 : decode cX4_paint 43 = .ok (.aload_n 0, 1) := by decide +kernel
theorem dX4_paint_44 : decode cX4_paint 44 = .ok (.getfield 32, 3) := by decide +kernel
theorem dX4_paint_47 : decode cX4_paint 47 = .ok (.aload_n 0, 1) := by decide +kernel
theorem dX4_paint_48 : decode cX4_paint 48 = .ok (.getfield 10, 3) := by decide +kernel
theorem dX4_paint_51 : decode cX4_paint 51 = .ok (.getfield 55, 3) := by decide +kernel
theorem dX4_paint_54 : decode cX4_paint 54 = .ok (.iload_n 1, 1) := by decide +kernel
theorem dX4_paint_55 : decode cX4_paint 55 = .ok (.invokevirtual 128, 3) := by decide +kernel
theorem dX4_paint_58 : decode cX4_paint 58 = .ok (.i2l, 1) := by decide +kernel
theorem dX4_paint_59 : decode cX4_paint 59 = .ok (.aload_n 0, 1) := by decide +kernel
theorem dX4_paint_60 : decode cX4_paint 60 = .ok (.getfield 10, 3) := by decide +kernel
theorem dX4_paint_63 : decode cX4_paint 63 = .ok (.getfield 55, 3) := by decide +kernel
theorem dX4_paint_66 : decode cX4_paint 66 = .ok (.invokevirtual 131, 3) := by decide +kernel
theorem dX4_paint_69 : decode cX4_paint 69 = .ok (.i2l, 1) := by decide +kernel
theorem dX4_paint_70 : decode cX4_paint 70 = .ok (.invokevirtual 135, 3) := by decide +kernel
theorem dX4_paint_73 : decode cX4_paint 73 = .ok (.iconst 1, 1) := by decide +kernel
theorem dX4_paint_74 : decode cX4_paint 74 = .ok (.ireturn, 1) := by decide +kernel
theorem dX4_brush_0 : decode cX4_brush 0 = .ok (.iload_n 1, 1) := by decide +kernel
theorem dX4_brush_1 : decode cX4_brush 1 = .ok (.invokestatic 81, 3) := by decide +kernel
theorem dX4_brush_4 : decode cX4_brush 4 = .ok (.ifCond .eq 30, 3) := by decide +kernel
theorem dX4_brush_7 : decode cX4_brush 7 = .ok (.iload_n 2, 1) := by decide +kernel
theorem dX4_brush_8 : decode cX4_brush 8 = .ok (.iconst 0, 1) := by decide +kernel
theorem dX4_brush_9 : decode cX4_brush 9 = .ok (.iconst 4, 1) := by decide +kernel
theorem dX4_brush_10 : decode cX4_brush 10 = .ok (.invokestatic 43, 3) := by decide +kernel
theorem dX4_brush_13 : decode cX4_brush 13 = .ok (.ifCond .eq 21, 3) := by decide +kernel
theorem dX4_brush_16 : decode cX4_brush 16 = .ok (.aload_n 0, 1) := by decide +kernel
theorem dX4_brush_17 : decode cX4_brush 17 = .ok (.iload_n 3, 1) := by decide +kernel
theorem dX4_brush_18 : decode cX4_brush 18 = .ok (.invokevirtual 77, 3) := by decide +kernel
theorem dX4_brush_21 : decode cX4_brush 21 = .ok (.ifCond .eq 13, 3) := by decide +kernel
theorem dX4_brush_24 : decode cX4_brush 24 = .ok (.iload 4, 2) := by decide +kernel
theorem dX4_brush_26 : decode cX4_brush 26 = .ok (.iconst 0, 1) := by decide +kernel
theorem dX4_brush_27 : decode cX4_brush 27 = .ok (.iconst 1, 1) := by decide +kernel
theorem dX4_brush_28 : decode cX4_brush 28 = .ok (.invokestatic 43, 3) := by decide +kernel
theorem dX4_brush_31 : decode cX4_brush 31 = .ok (.ifCond .ne 10, 3) := by decide +kernel
theorem dX4_brush_34 : decode cX4_brush 34 = .ok (.aload_n 0, 1) := by decide +kernel
theorem dX4_brush_35 : decode cX4_brush 35 = .ok (.bipush (-2), 2) := by decide +kernel
theorem dX4_brush_37 : decode cX4_brush 37 = .ok (.invokevirtual 51, 3) := by decide +kernel
theorem dX4_brush_40 : decode cX4_brush 40 = .ok (.ireturn, 1) := by decide +kernel
theorem dX4_brush_41 : decode cX4_brush 41 = .ok (.aload_n 0, 1) := by decide +kernel
theorem dX4_brush_42 : decode cX4_brush 42 = .ok (.getfield 10, 3) := by decide +kernel
theorem dX4_brush_45 : decode cX4_brush 45 = .ok (.getfield 55, 3) := by decide +kernel
theorem dX4_brush_48 : decode cX4_brush 48 = .ok (.getfield 66, 3) := by decide +kernel
theorem dX4_brush_51 : decode cX4_brush 51 = .ok (.ifCond .ne 10, 3) := by decide +kernel
theorem dX4_brush_54 : decode cX4_brush 54 = .ok (.aload_n 0, 1) := by decide +kernel
theorem dX4_brush_55 : decode cX4_brush 55 = .ok (.bipush (-3), 2) := by decide +kernel
theorem dX4_brush_57 : decode cX4_brush 57 = .ok (.invokevirtual 51, 3) := by decide +kernel
theorem dX4_brush_60 : decode cX4_brush 60 = .ok (.ireturn, 1) := by decide +kernel
theorem dX4_brush_61 : decode cX4_brush 61 = .ok (.iconst 0, 1) := by decide +kernel
theorem dX4_brush_62 : decode cX4_brush 62 = .ok (.ireturn, 1) := by decide +kernel
theorem dX4_against_0 : decode cX4_against 0 = .ok (.aload_n 0, 1) := by decide +kernel
theorem dX4_against_1 : decode cX4_against 1 = .ok (.getfield 10, 3) := by decide +kernel
theorem dX4_against_4 : decode cX4_against 4 = .ok (.getfield 55, 3) := by decide +kernel
theorem dX4_against_7 : decode cX4_against 7 = .ok (.getfield 66, 3) := by decide +kernel
theorem dX4_against_10 : decode cX4_against 10 = .ok (.ifCond .ne 13, 3) := by decide +kernel
theorem dX4_against_13 : decode cX4_against 13 = .ok (.aload_n 0, 1) := by decide +kernel
theorem dX4_against_14 : decode cX4_against 14 = .ok (.bipush (-3), 2) := by decide +kernel
theorem dX4_against_16 : decode cX4_against 16 = .ok (.invokevirtual 51, 3) := by decide +kernel
theorem dX4_against_19 : decode cX4_against 19 = .ok (.pop, 1) := by decide +kernel
theorem dX4_against_20 : decode cX4_against 20 = .ok (.bipush (-20), 2) := by decide +kernel
theorem dX4_against_22 : decode cX4_against 22 = .ok (.ireturn, 1) := by decide +kernel
theorem dX4_against_23 : decode cX4_against 23 = .ok (.aload_n 0, 1) := by decide +kernel
theorem dX4_against_24 : decode cX4_against 24 = .ok (.getfield 39, 3) := by decide +kernel
theorem dX4_against_27 : decode cX4_against 27 = .ok (.aload_n 0, 1) := by decide +kernel
theorem dX4_against_28 : decode cX4_against 28 = .ok (.getfield 10, 3) := by decide +kernel
theorem dX4_against_31 : decode cX4_against 31 = .ok (.getfield 55, 3) := by decide +kernel
theorem dX4_against_34 : decode cX4_against 34 = .ok (.invokevirtual 102, 3) := by decide +kernel
theorem dX4_against_37 : decode cX4_against 37 = .ok (.aload_n 0, 1) := by decide +kernel
theorem dX4_against_38 : decode cX4_against 38 = .ok (.getfield 39, 3) := by decide +kernel
theorem dX4_against_41 : decode cX4_against 41 = .ok (.invokevirtual 138, 3) := by decide +kernel
theorem dX4_against_44 : decode cX4_against 44 = .ok (.istore_n 1, 1) := by decide +kernel
theorem dX4_against_45 : decode cX4_against 45 = .ok (.aload_n 0, 1) := by decide +kernel
theorem dX4_against_46 : decode cX4_against 46 = .ok (.getfield 32, 3) := by decide +kernel
theorem dX4_against_49 : decode cX4_against 49 = .ok (.iload_n 1, 1) := by decide +kernel
theorem dX4_against_50 : decode cX4_against 50 = .ok (.i2l, 1) := by decide +kernel
theorem dX4_against_51 : decode cX4_against 51 = .ok (.aload_n 0, 1) := by decide +kernel
theorem dX4_against_52 : decode cX4_against 52 = .ok (.getfield 39, 3) := by decide +kernel
theorem dX4_against_55 : decode cX4_against 55 = .ok (.invokevirtual 131, 3) := by decide +kernel
theorem dX4_against_58 : decode cX4_against 58 = .ok (.i2l, 1) := by decide +kernel
theorem dX4_against_59 : decode cX4_against 59 = .ok (.invokevirtual 135, 3) := by decide +kernel
theorem dX4_against_62 : decode cX4_against 62 = .ok (.iconst 0, 1) := by decide +kernel
theorem dX4_against_63 : decode cX4_against 63 = .ok (.istore_n 2, 1) := by decide +kernel
theorem dX4_against_64 : decode cX4_against 64 = .ok (.iload_n 2, 1) := by decide +kernel
theorem dX4_against_65 : decode cX4_against 65 = .ok (.iconst 2, 1) := by decide +kernel
theorem dX4_against_66 : decode cX4_against 66 = .ok (.aload_n 0, 1) := by decide +kernel
theorem dX4_against_67 : decode cX4_against 67 = .ok (.getfield 39, 3) := by decide +kernel
theorem dX4_against_70 : decode cX4_against 70 = .ok (.getfield 58, 3) := by decide +kernel
theorem dX4_against_73 : decode cX4_against 73 = .ok (.imul, 1) := by decide +kernel
theorem dX4_against_74 : decode cX4_against 74 = .ok (.if_icmp .ge 23, 3) := by decide +kernel
theorem dX4_against_77 : decode cX4_against 77 = .ok (.aload_n 0, 1) := by decide +kernel
theorem dX4_against_78 : decode cX4_against 78 = .ok (.getfield 39, 3) := by decide +kernel
theorem dX4_against_81 : decode cX4_against 81 = .ok (.iload_n 2, 1) := by decide +kernel
theorem dX4_against_82 : decode cX4_against 82 = .ok (.iload_n 1, 1) := by decide +kernel
theorem dX4_against_83 : decode cX4_against 83 = .ok (.invokevirtual 141, 3) := by decide +kernel
theorem dX4_against_86 : decode cX4_against 86 = .ok (.ifCond .eq 5, 3) := by decide +kernel
theorem dX4_against_89 : decode cX4_against 89 = .ok (.iload_n 2, 1) := by decide +kernel
theorem dX4_against_90 : decode cX4_against 90 = .ok (.ireturn, 1) := by decide +kernel
theorem dX4_against_91 : decode cX4_against 91 = .ok (.iinc 2 1, 3) := by decide +kernel
theorem dX4_against_94 : decode cX4_against 94 = .ok (.goto (-30), 3) := by decide +kernel
theorem dX4_against_97 : decode cX4_against 97 = .ok (.iconst (-1), 1) := by decide +kernel
theorem dX4_against_98 : decode cX4_against 98 = .ok (.ireturn, 1) := by decide +kernel
theorem dX4_decides_0 : decode cX4_decides 0 = .ok (.aload_n 0, 1) := by decide +kernel
theorem dX4_decides_1 : decode cX4_decides 1 = .ok (.iload_n 1, 1) := by decide +kernel
theorem dX4_decides_2 : decode cX4_decides 2 = .ok (.invokevirtual 77, 3) := by decide +kernel
theorem dX4_decides_5 : decode cX4_decides 5 = .ok (.ifCond .ne 10, 3) := by decide +kernel
theorem dX4_decides_8 : decode cX4_decides 8 = .ok (.aload_n 0, 1) := by decide +kernel
theorem dX4_decides_9 : decode cX4_decides 9 = .ok (.bipush (-2), 2) := by decide +kernel
theorem dX4_decides_11 : decode cX4_decides 11 = .ok (.invokevirtual 51, 3) := by decide +kernel
theorem dX4_decides_14 : decode cX4_decides 14 = .ok (.ireturn, 1) := by decide +kernel
theorem dX4_decides_15 : decode cX4_decides 15 = .ok (.iconst 0, 1) := by decide +kernel
theorem dX4_decides_16 : decode cX4_decides 16 = .ok (.istore_n 2, 1) := by decide +kernel
theorem dX4_decides_17 : decode cX4_decides 17 = .ok (.iconst 0, 1) := by decide +kernel
theorem dX4_decides_18 : decode cX4_decides 18 = .ok (.istore_n 3, 1) := by decide +kernel
theorem dX4_decides_19 : decode cX4_decides 19 = .ok (.iload_n 3, 1) := by decide +kernel
theorem dX4_decides_20 : decode cX4_decides 20 = .ok (.aload_n 0, 1) := by decide +kernel
theorem dX4_decides_21 : decode cX4_decides 21 = .ok (.getfield 10, 3) := by decide +kernel
theorem dX4_decides_24 : decode cX4_decides 24 = .ok (.getfield 55, 3) := by decide +kernel
theorem dX4_decides_27 : decode cX4_decides 27 = .ok (.getfield 66, 3) := by decide +kernel
theorem dX4_decides_30 : decode cX4_decides 30 = .ok (.if_icmp .ge 27, 3) := by decide +kernel
theorem dX4_decides_33 : decode cX4_decides 33 = .ok (.aload_n 0, 1) := by decide +kernel
theorem dX4_decides_34 : decode cX4_decides 34 = .ok (.getfield 10, 3) := by decide +kernel
theorem dX4_decides_37 : decode cX4_decides 37 = .ok (.getfield 55, 3) := by decide +kernel
theorem dX4_decides_40 : decode cX4_decides 40 = .ok (.iload_n 3, 1) := by decide +kernel
theorem dX4_decides_41 : decode cX4_decides 41 = .ok (.iload_n 1, 1) := by decide +kernel
theorem dX4_decides_42 : decode cX4_decides 42 = .ok (.invokevirtual 144, 3) := by decide +kernel
theorem dX4_decides_45 : decode cX4_decides 45 = .ok (.ifCond .eq 6, 3) := by decide +kernel
theorem dX4_decides_48 : decode cX4_decides 48 = .ok (.iinc 2 1, 3) := by decide +kernel
theorem dX4_decides_51 : decode cX4_decides 51 = .ok (.iinc 3 1, 3) := by decide +kernel
theorem dX4_decides_54 : decode cX4_decides 54 = .ok (.goto (-35), 3) := by decide +kernel
theorem dX4_decides_57 : decode cX4_decides 57 = .ok (.iload_n 2, 1) := by decide +kernel
theorem dX4_decides_58 : decode cX4_decides 58 = .ok (.ireturn, 1) := by decide +kernel
theorem dX4_power_0 : decode cX4_power 0 = .ok (.aload_n 0, 1) := by decide +kernel
theorem dX4_power_1 : decode cX4_power 1 = .ok (.iload_n 1, 1) := by decide +kernel
theorem dX4_power_2 : decode cX4_power 2 = .ok (.invokevirtual 77, 3) := by decide +kernel
theorem dX4_power_5 : decode cX4_power 5 = .ok (.ifCond .ne 10, 3) := by decide +kernel
theorem dX4_power_8 : decode cX4_power 8 = .ok (.aload_n 0, 1) := by decide +kernel
theorem dX4_power_9 : decode cX4_power 9 = .ok (.bipush (-2), 2) := by decide +kernel
theorem dX4_power_11 : decode cX4_power 11 = .ok (.invokevirtual 51, 3) := by decide +kernel
theorem dX4_power_14 : decode cX4_power 14 = .ok (.ireturn, 1) := by decide +kernel
theorem dX4_power_15 : decode cX4_power 15 = .ok (.aload_n 0, 1) := by decide +kernel
theorem dX4_power_16 : decode cX4_power 16 = .ok (.getfield 10, 3) := by decide +kernel
theorem dX4_power_19 : decode cX4_power 19 = .ok (.getfield 55, 3) := by decide +kernel
theorem dX4_power_22 : decode cX4_power 22 = .ok (.getfield 66, 3) := by decide +kernel
theorem dX4_power_25 : decode cX4_power 25 = .ok (.ifCond .ne 10, 3) := by decide +kernel
theorem dX4_power_28 : decode cX4_power 28 = .ok (.aload_n 0, 1) := by decide +kernel
theorem dX4_power_29 : decode cX4_power 29 = .ok (.bipush (-3), 2) := by decide +kernel
theorem dX4_power_31 : decode cX4_power 31 = .ok (.invokevirtual 51, 3) := by decide +kernel
theorem dX4_power_34 : decode cX4_power 34 = .ok (.ireturn, 1) := by decide +kernel
theorem dX4_power_35 : decode cX4_power 35 = .ok (.iconst 0, 1) := by decide +kernel
theorem dX4_power_36 : decode cX4_power 36 = .ok (.istore_n 2, 1) := by decide +kernel
theorem dX4_power_37 : decode cX4_power 37 = .ok (.iconst 0, 1) := by decide +kernel
theorem dX4_power_38 : decode cX4_power 38 = .ok (.istore_n 3, 1) := by decide +kernel
theorem dX4_power_39 : decode cX4_power 39 = .ok (.iload_n 3, 1) := by decide +kernel
theorem dX4_power_40 : decode cX4_power 40 = .ok (.aload_n 0, 1) := by decide +kernel
theorem dX4_power_41 : decode cX4_power 41 = .ok (.getfield 10, 3) := by decide +kernel
theorem dX4_power_44 : decode cX4_power 44 = .ok (.getfield 55, 3) := by decide +kernel
theorem dX4_power_47 : decode cX4_power 47 = .ok (.getfield 66, 3) := by decide +kernel
theorem dX4_power_50 : decode cX4_power 50 = .ok (.if_icmp .ge 39, 3) := by decide +kernel
theorem dX4_power_53 : decode cX4_power 53 = .ok (.aload_n 0, 1) := by decide +kernel
theorem dX4_power_54 : decode cX4_power 54 = .ok (.getfield 10, 3) := by decide +kernel
theorem dX4_power_57 : decode cX4_power 57 = .ok (.getfield 55, 3) := by decide +kernel
theorem dX4_power_60 : decode cX4_power 60 = .ok (.iload_n 3, 1) := by decide +kernel
theorem dX4_power_61 : decode cX4_power 61 = .ok (.iload_n 1, 1) := by decide +kernel
theorem dX4_power_62 : decode cX4_power 62 = .ok (.invokevirtual 144, 3) := by decide +kernel
theorem dX4_power_65 : decode cX4_power 65 = .ok (.ifCond .eq 18, 3) := by decide +kernel
theorem dX4_power_68 : decode cX4_power 68 = .ok (.iload_n 2, 1) := by decide +kernel
theorem dX4_power_69 : decode cX4_power 69 = .ok (.aload_n 0, 1) := by decide +kernel
theorem dX4_power_70 : decode cX4_power 70 = .ok (.getfield 10, 3) := by decide +kernel
theorem dX4_power_73 : decode cX4_power 73 = .ok (.getfield 55, 3) := by decide +kernel
theorem dX4_power_76 : decode cX4_power 76 = .ok (.getfield 147, 3) := by decide +kernel
theorem dX4_power_79 : decode cX4_power 79 = .ok (.iload_n 3, 1) := by decide +kernel
theorem dX4_power_80 : decode cX4_power 80 = .ok (.iaload, 1) := by decide +kernel
theorem dX4_power_81 : decode cX4_power 81 = .ok (.iadd, 1) := by decide +kernel
theorem dX4_power_82 : decode cX4_power 82 = .ok (.istore_n 2, 1) := by decide +kernel
theorem dX4_power_83 : decode cX4_power 83 = .ok (.iinc 3 1, 3) := by decide +kernel
theorem dX4_power_86 : decode cX4_power 86 = .ok (.goto (-47), 3) := by decide +kernel
theorem dX4_power_89 : decode cX4_power 89 = .ok (.aload_n 0, 1) := by decide +kernel
theorem dX4_power_90 : decode cX4_power 90 = .ok (.getfield 32, 3) := by decide +kernel
theorem dX4_power_93 : decode cX4_power 93 = .ok (.iload_n 2, 1) := by decide +kernel
theorem dX4_power_94 : decode cX4_power 94 = .ok (.i2l, 1) := by decide +kernel
theorem dX4_power_95 : decode cX4_power 95 = .ok (.aload_n 0, 1) := by decide +kernel
theorem dX4_power_96 : decode cX4_power 96 = .ok (.getfield 10, 3) := by decide +kernel
theorem dX4_power_99 : decode cX4_power 99 = .ok (.getfield 55, 3) := by decide +kernel
theorem dX4_power_102 : decode cX4_power 102 = .ok (.invokevirtual 131, 3) := by decide +kernel
theorem dX4_power_105 : decode cX4_power 105 = .ok (.i2l, 1) := by decide +kernel
theorem dX4_power_106 : decode cX4_power 106 = .ok (.invokevirtual 135, 3) := by decide +kernel
theorem dX4_power_109 : decode cX4_power 109 = .ok (.iconst 1, 1) := by decide +kernel
theorem dX4_power_110 : decode cX4_power 110 = .ok (.ireturn, 1) := by decide +kernel
theorem dX4_shield_0 : decode cX4_shield 0 = .ok (.iload_n 1, 1) := by decide +kernel
theorem dX4_shield_1 : decode cX4_shield 1 = .ok (.invokestatic 81, 3) := by decide +kernel
theorem dX4_shield_4 : decode cX4_shield 4 = .ok (.ifCond .ne 10, 3) := by decide +kernel
theorem dX4_shield_7 : decode cX4_shield 7 = .ok (.aload_n 0, 1) := by decide +kernel
theorem dX4_shield_8 : decode cX4_shield 8 = .ok (.bipush (-2), 2) := by decide +kernel
theorem dX4_shield_10 : decode cX4_shield 10 = .ok (.invokevirtual 51, 3) := by decide +kernel
theorem dX4_shield_13 : decode cX4_shield 13 = .ok (.ireturn, 1) := by decide +kernel
theorem dX4_shield_14 : decode cX4_shield 14 = .ok (.aload_n 0, 1) := by decide +kernel
theorem dX4_shield_15 : decode cX4_shield 15 = .ok (.getfield 10, 3) := by decide +kernel
theorem dX4_shield_18 : decode cX4_shield 18 = .ok (.getfield 55, 3) := by decide +kernel
theorem dX4_shield_21 : decode cX4_shield 21 = .ok (.getfield 66, 3) := by decide +kernel
theorem dX4_shield_24 : decode cX4_shield 24 = .ok (.ifCond .ne 10, 3) := by decide +kernel
theorem dX4_shield_27 : decode cX4_shield 27 = .ok (.aload_n 0, 1) := by decide +kernel
theorem dX4_shield_28 : decode cX4_shield 28 = .ok (.bipush (-3), 2) := by decide +kernel
theorem dX4_shield_30 : decode cX4_shield 30 = .ok (.invokevirtual 51, 3) := by decide +kernel
theorem dX4_shield_33 : decode cX4_shield 33 = .ok (.ireturn, 1) := by decide +kernel
theorem dX4_shield_34 : decode cX4_shield 34 = .ok (.aload_n 0, 1) := by decide +kernel
theorem dX4_shield_35 : decode cX4_shield 35 = .ok (.getfield 39, 3) := by decide +kernel
theorem dX4_shield_38 : decode cX4_shield 38 = .ok (.aload_n 0, 1) := by decide +kernel
theorem dX4_shield_39 : decode cX4_shield 39 = .ok (.getfield 10, 3) := by decide +kernel
theorem dX4_shield_42 : decode cX4_shield 42 = .ok (.getfield 55, 3) := by decide +kernel
theorem dX4_shield_45 : decode cX4_shield 45 = .ok (.invokevirtual 102, 3) := by decide +kernel
theorem dX4_shield_48 : decode cX4_shield 48 = .ok (.iconst (-1), 1) := by decide +kernel
theorem dX4_shield_49 : decode cX4_shield 49 = .ok (.istore_n 2, 1) := by decide +kernel
theorem dX4_shield_50 : decode cX4_shield 50 = .ok (.iconst (-1), 1) := by decide +kernel
theorem dX4_shield_51 : decode cX4_shield 51 = .ok (.istore_n 3, 1) := by decide +kernel
theorem dX4_shield_52 : decode cX4_shield 52 = .ok (.iconst 0, 1) := by decide +kernel
theorem dX4_shield_53 : decode cX4_shield 53 = .ok (.istore 4, 2) := by decide +kernel
theorem dX4_shield_55 : decode cX4_shield 55 = .ok (.iload 4, 2) := by decide +kernel
theorem dX4_shield_57 : decode cX4_shield 57 = .ok (.bipush 7, 2) := by decide +kernel
theorem dX4_shield_59 : decode cX4_shield 59 = .ok (.if_icmp .ge 46, 3) := by decide +kernel
theorem dX4_shield_62 : decode cX4_shield 62 = .ok (.aload_n 0, 1) := by decide +kernel
theorem dX4_shield_63 : decode cX4_shield 63 = .ok (.getfield 39, 3) := by decide +kernel
theorem dX4_shield_66 : decode cX4_shield 66 = .ok (.getfield 73, 3) := by decide +kernel
theorem dX4_shield_69 : decode cX4_shield 69 = .ok (.iload 4, 2) := by decide +kernel
theorem dX4_shield_71 : decode cX4_shield 71 = .ok (.iaload, 1) := by decide +kernel
theorem dX4_shield_72 : decode cX4_shield 72 = .ok (.ifCond .ne 27, 3) := by decide +kernel
theorem dX4_shield_75 : decode cX4_shield 75 = .ok (.aload_n 0, 1) := by decide +kernel
theorem dX4_shield_76 : decode cX4_shield 76 = .ok (.getfield 39, 3) := by decide +kernel
theorem dX4_shield_79 : decode cX4_shield 79 = .ok (.iload 4, 2) := by decide +kernel
theorem dX4_shield_81 : decode cX4_shield 81 = .ok (.iload_n 1, 1) := by decide +kernel
theorem dX4_shield_82 : decode cX4_shield 82 = .ok (.invokevirtual 150, 3) := by decide +kernel
theorem dX4_shield_85 : decode cX4_shield 85 = .ok (.istore 5, 2) := by decide +kernel
theorem dX4_shield_87 : decode cX4_shield 87 = .ok (.iload 5, 2) := by decide +kernel
theorem dX4_shield_89 : decode cX4_shield 89 = .ok (.iload_n 3, 1) := by decide +kernel
theorem dX4_shield_90 : decode cX4_shield 90 = .ok (.if_icmp .le 9, 3) := by decide +kernel
theorem dX4_shield_93 : decode cX4_shield 93 = .ok (.iload 5, 2) := by decide +kernel
theorem dX4_shield_95 : decode cX4_shield 95 = .ok (.istore_n 3, 1) := by decide +kernel
theorem dX4_shield_96 : decode cX4_shield 96 = .ok (.iload 4, 2) := by decide +kernel
theorem dX4_shield_98 : decode cX4_shield 98 = .ok (.istore_n 2, 1) := by decide +kernel
theorem dX4_shield_99 : decode cX4_shield 99 = .ok (.iinc 4 1, 3) := by decide +kernel
theorem dX4_shield_102 : decode cX4_shield 102 = .ok (.goto (-47), 3) := by decide +kernel
theorem dX4_shield_105 : decode cX4_shield 105 = .ok (.iload_n 2, 1) := by decide +kernel
theorem dX4_shield_106 : decode cX4_shield 106 = .ok (.iconst (-1), 1) := by decide +kernel
theorem dX4_shield_107 : decode cX4_shield 107 = .ok (.if_icmp .eq 20, 3) := by decide +kernel
theorem dX4_shield_110 : decode cX4_shield 110 = .ok (.aload_n 0, 1) := by decide +kernel
theorem dX4_shield_111 : decode cX4_shield 111 = .ok (.getfield 32, 3) := by decide +kernel
theorem dX4_shield_114 : decode cX4_shield 114 = .ok (.iload_n 3, 1) := by decide +kernel
theorem dX4_shield_115 : decode cX4_shield 115 = .ok (.i2l, 1) := by decide +kernel
theorem dX4_shield_116 : decode cX4_shield 116 = .ok (.aload_n 0, 1) := by decide +kernel
theorem dX4_shield_117 : decode cX4_shield 117 = .ok (.getfield 39, 3) := by decide +kernel
theorem dX4_shield_120 : decode cX4_shield 120 = .ok (.invokevirtual 131, 3) := by decide +kernel
theorem dX4_shield_123 : decode cX4_shield 123 = .ok (.i2l, 1) := by decide +kernel
theorem dX4_shield_124 : decode cX4_shield 124 = .ok (.invokevirtual 135, 3) := by decide +kernel
theorem dX4_shield_127 : decode cX4_shield 127 = .ok (.iload_n 2, 1) := by decide +kernel
theorem dX4_shield_128 : decode cX4_shield 128 = .ok (.ireturn, 1) := by decide +kernel
theorem dX4_shards_0 : decode cX4_shards 0 = .ok (.iload_n 2, 1) := by decide +kernel
theorem dX4_shards_1 : decode cX4_shards 1 = .ok (.iconst 0, 1) := by decide +kernel
theorem dX4_shards_2 : decode cX4_shards 2 = .ok (.bipush 18, 2) := by decide +kernel
theorem dX4_shards_4 : decode cX4_shards 4 = .ok (.invokestatic 43, 3) := by decide +kernel
theorem dX4_shards_7 : decode cX4_shards 7 = .ok (.ifCond .eq 17, 3) := by decide +kernel
theorem dX4_shards_10 : decode cX4_shards 10 = .ok (.iload_n 3, 1) := by decide +kernel
theorem dX4_shards_11 : decode cX4_shards 11 = .ok (.iconst 0, 1) := by decide +kernel
theorem dX4_shards_12 : decode cX4_shards 12 = .ok (.bipush 18, 2) := by decide +kernel
theorem dX4_shards_14 : decode cX4_shards 14 = .ok (.invokestatic 43, 3) := by decide +kernel
theorem dX4_shards_17 : decode cX4_shards 17 = .ok (.ifCond .eq 7, 3) := by decide +kernel
theorem dX4_shards_20 : decode cX4_shards 20 = .ok (.iconst 1, 1) := by decide +kernel
theorem dX4_shards_21 : decode cX4_shards 21 = .ok (.goto 4, 3) := by decide +kernel
theorem dX4_shards_24 : decode cX4_shards 24 = .ok (.iconst 0, 1) := by decide +kernel
theorem dX4_shards_25 : decode cX4_shards 25 = .ok (.istore 4, 2) := by decide +kernel
theorem dX4_shards_27 : decode cX4_shards 27 = .ok (.iload_n 2, 1) := by decide +kernel
theorem dX4_shards_28 : decode cX4_shards 28 = .ok (.iconst (-1), 1) := by decide +kernel
theorem dX4_shards_29 : decode cX4_shards 29 = .ok (.if_icmp .ne 12, 3) := by decide +kernel
theorem dX4_shards_32 : decode cX4_shards 32 = .ok (.iload_n 3, 1) := by decide +kernel
theorem dX4_shards_33 : decode cX4_shards 33 = .ok (.iconst (-1), 1) := by decide +kernel
theorem dX4_shards_34 : decode cX4_shards 34 = .ok (.if_icmp .ne 7, 3) := by decide +kernel
theorem dX4_shards_37 : decode cX4_shards 37 = .ok (.iconst 1, 1) := by decide +kernel
theorem dX4_shards_38 : decode cX4_shards 38 = .ok (.goto 4, 3) := by decide +kernel
theorem dX4_shards_41 : decode cX4_shards 41 = .ok (.iconst 0, 1) := by decide +kernel
theorem dX4_shards_42 : decode cX4_shards 42 = .ok (.istore 5, 2) := by decide +kernel
theorem dX4_shards_44 : decode cX4_shards 44 = .ok (.aload_n 0, 1) := by decide +kernel
theorem dX4_shards_45 : decode cX4_shards 45 = .ok (.iload_n 1, 1) := by decide +kernel
theorem dX4_shards_46 : decode cX4_shards 46 = .ok (.invokevirtual 77, 3) := by decide +kernel
theorem dX4_shards_49 : decode cX4_shards 49 = .ok (.ifCond .eq 13, 3) := by decide +kernel
theorem dX4_shards_52 : decode cX4_shards 52 = .ok (.iload 4, 2) := by decide +kernel
theorem dX4_shards_54 : decode cX4_shards 54 = .ok (.ifCond .ne 15, 3) := by decide +kernel
theorem dX4_shards_57 : decode cX4_shards 57 = .ok (.iload 5, 2) := by decide +kernel
theorem dX4_shards_59 : decode cX4_shards 59 = .ok (.ifCond .ne 10, 3) := by decide +kernel
theorem dX4_shards_62 : decode cX4_shards 62 = .ok (.aload_n 0, 1) := by decide +kernel
theorem dX4_shards_63 : decode cX4_shards 63 = .ok (.bipush (-2), 2) := by decide +kernel
theorem dX4_shards_65 : decode cX4_shards 65 = .ok (.invokevirtual 51, 3) := by decide +kernel
theorem dX4_shards_68 : decode cX4_shards 68 = .ok (.ireturn, 1) := by decide +kernel
theorem dX4_shards_69 : decode cX4_shards 69 = .ok (.aload_n 0, 1) := by decide +kernel
theorem dX4_shards_70 : decode cX4_shards 70 = .ok (.getfield 10, 3) := by decide +kernel
theorem dX4_shards_73 : decode cX4_shards 73 = .ok (.getfield 55, 3) := by decide +kernel
theorem dX4_shards_76 : decode cX4_shards 76 = .ok (.getfield 153, 3) := by decide +kernel
theorem dX4_shards_79 : decode cX4_shards 79 = .ok (.iload_n 1, 1) := by decide +kernel
theorem dX4_shards_80 : decode cX4_shards 80 = .ok (.iload_n 2, 1) := by decide +kernel
theorem dX4_shards_81 : decode cX4_shards 81 = .ok (.iastore, 1) := by decide +kernel
theorem dX4_shards_82 : decode cX4_shards 82 = .ok (.aload_n 0, 1) := by decide +kernel
theorem dX4_shards_83 : decode cX4_shards 83 = .ok (.getfield 10, 3) := by decide +kernel
theorem dX4_shards_86 : decode cX4_shards 86 = .ok (.getfield 55, 3) := by decide +kernel
theorem dX4_shards_89 : decode cX4_shards 89 = .ok (.getfield 156, 3) := by decide +kernel
theorem dX4_shards_92 : decode cX4_shards 92 = .ok (.iload_n 1, 1) := by decide +kernel
theorem dX4_shards_93 : decode cX4_shards 93 = .ok (.iload_n 3, 1) := by decide +kernel
theorem dX4_shards_94 : decode cX4_shards 94 = .ok (.iastore, 1) := by decide +kernel
theorem dX4_shards_95 : decode cX4_shards 95 = .ok (.iconst 1, 1) := by decide +kernel
theorem dX4_shards_96 : decode cX4_shards 96 = .ok (.ireturn, 1) := by decide +kernel
theorem dX4_which_0 : decode cX4_which 0 = .ok (.iload_n 1, 1) := by decide +kernel
theorem dX4_which_1 : decode cX4_which 1 = .ok (.iconst 0, 1) := by decide +kernel
theorem dX4_which_2 : decode cX4_which 2 = .ok (.iconst 1, 1) := by decide +kernel
theorem dX4_which_3 : decode cX4_which 3 = .ok (.invokestatic 43, 3) := by decide +kernel
theorem dX4_which_6 : decode cX4_which 6 = .ok (.ifCond .ne 10, 3) := by decide +kernel
theorem dX4_which_9 : decode cX4_which 9 = .ok (.aload_n 0, 1) := by decide +kernel
theorem dX4_which_10 : decode cX4_which 10 = .ok (.bipush (-2), 2) := by decide +kernel
theorem dX4_which_12 : decode cX4_which 12 = .ok (.invokevirtual 51, 3) := by decide +kernel
theorem dX4_which_15 : decode cX4_which 15 = .ok (.ireturn, 1) := by decide +kernel
theorem dX4_which_16 : decode cX4_which 16 = .ok (.iload_n 1, 1) := by decide +kernel
theorem dX4_which_17 : decode cX4_which 17 = .ok (.ifCond .ne 16, 3) := by decide +kernel
theorem dX4_which_20 : decode cX4_which 20 = .ok (.aload_n 0, 1) := by decide +kernel
theorem dX4_which_21 : decode cX4_which 21 = .ok (.getfield 10, 3) := by decide +kernel
theorem dX4_which_24 : decode cX4_which 24 = .ok (.getfield 55, 3) := by decide +kernel
theorem dX4_which_27 : decode cX4_which 27 = .ok (.invokevirtual 159, 3) := by decide +kernel
theorem dX4_which_30 : decode cX4_which 30 = .ok (.goto 13, 3) := by decide +kernel
theorem dX4_which_33 : decode cX4_which 33 = .ok (.aload_n 0, 1) := by decide +kernel
theorem dX4_which_34 : decode cX4_which 34 = .ok (.getfield 10, 3) := by decide +kernel
theorem dX4_which_37 : decode cX4_which 37 = .ok (.getfield 55, 3) := by decide +kernel
theorem dX4_which_40 : decode cX4_which 40 = .ok (.invokevirtual 162, 3) := by decide +kernel
theorem dX4_which_43 : decode cX4_which 43 = .ok (.ireturn, 1) := by decide +kernel
theorem dX4_recount_0 : decode cX4_recount 0 = .ok (.aload_n 0, 1) := by decide +kernel
theorem dX4_recount_1 : decode cX4_recount 1 = .ok (.iload_n 1, 1) := by decide +kernel
theorem dX4_recount_2 : decode cX4_recount 2 = .ok (.invokevirtual 109, 3) := by decide +kernel
theorem dX4_recount_5 : decode cX4_recount 5 = .ok (.ifCond .eq 13, 3) := by decide +kernel
theorem dX4_recount_8 : decode cX4_recount 8 = .ok (.iload_n 2, 1) := by decide +kernel
theorem dX4_recount_9 : decode cX4_recount 9 = .ok (.iconst 1, 1) := by decide +kernel
theorem dX4_recount_10 : decode cX4_recount 10 = .ok (.bipush 8, 2) := by decide +kernel
theorem dX4_recount_12 : decode cX4_recount 12 = .ok (.invokestatic 43, 3) := by decide +kernel
theorem dX4_recount_15 : decode cX4_recount 15 = .ok (.ifCond .ne 10, 3) := by decide +kernel
theorem dX4_recount_18 : decode cX4_recount 18 = .ok (.aload_n 0, 1) := by decide +kernel
theorem dX4_recount_19 : decode cX4_recount 19 = .ok (.bipush (-2), 2) := by decide +kernel
theorem dX4_recount_21 : decode cX4_recount 21 = .ok (.invokevirtual 51, 3) := by decide +kernel
theorem dX4_recount_24 : decode cX4_recount 24 = .ok (.ireturn, 1) := by decide +kernel
theorem dX4_recount_25 : decode cX4_recount 25 = .ok (.aload_n 0, 1) := by decide +kernel
theorem dX4_recount_26 : decode cX4_recount 26 = .ok (.getfield 10, 3) := by decide +kernel
theorem dX4_recount_29 : decode cX4_recount 29 = .ok (.getfield 55, 3) := by decide +kernel
theorem dX4_recount_32 : decode cX4_recount 32 = .ok (.iload_n 1, 1) := by decide +kernel
theorem dX4_recount_33 : decode cX4_recount 33 = .ok (.iconst 0, 1) := by decide +kernel
theorem dX4_recount_34 : decode cX4_recount 34 = .ok (.invokevirtual 115, 3) := by decide +kernel
theorem dX4_recount_37 : decode cX4_recount 37 = .ok (.istore_n 3, 1) := by decide +kernel
theorem dX4_recount_38 : decode cX4_recount 38 = .ok (.aload_n 0, 1) := by decide +kernel
theorem dX4_recount_39 : decode cX4_recount 39 = .ok (.getfield 10, 3) := by decide +kernel
theorem dX4_recount_42 : decode cX4_recount 42 = .ok (.getfield 55, 3) := by decide +kernel
theorem dX4_recount_45 : decode cX4_recount 45 = .ok (.iload_n 1, 1) := by decide +kernel
theorem dX4_recount_46 : decode cX4_recount 46 = .ok (.iconst 1, 1) := by decide +kernel
theorem dX4_recount_47 : decode cX4_recount 47 = .ok (.invokevirtual 115, 3) := by decide +kernel
theorem dX4_recount_50 : decode cX4_recount 50 = .ok (.istore 4, 2) := by decide +kernel
theorem dX4_recount_52 : decode cX4_recount 52 = .ok (.iload_n 2, 1) := by decide +kernel
theorem dX4_recount_53 : decode cX4_recount 53 = .ok (.iload_n 3, 1) := by decide +kernel
theorem dX4_recount_54 : decode cX4_recount 54 = .ok (.iload 4, 2) := by decide +kernel
theorem dX4_recount_56 : decode cX4_recount 56 = .ok (.iadd, 1) := by decide +kernel
theorem dX4_recount_57 : decode cX4_recount 57 = .ok (.if_icmp .le 10, 3) := by decide +kernel
theorem dX4_recount_60 : decode cX4_recount 60 = .ok (.aload_n 0, 1) := by decide +kernel
theorem dX4_recount_61 : decode cX4_recount 61 = .ok (.bipush (-2), 2) := by decide +kernel
theorem dX4_recount_63 : decode cX4_recount 63 = .ok (.invokevirtual 51, 3) := by decide +kernel
theorem dX4_recount_66 : decode cX4_recount 66 = .ok (.ireturn, 1) := by decide +kernel
theorem dX4_recount_67 : decode cX4_recount 67 = .ok (.iload_n 3, 1) := by decide +kernel
theorem dX4_recount_68 : decode cX4_recount 68 = .ok (.iload 4, 2) := by decide +kernel
theorem dX4_recount_70 : decode cX4_recount 70 = .ok (.if_icmp .ne 10, 3) := by decide +kernel
theorem dX4_recount_73 : decode cX4_recount 73 = .ok (.aload_n 0, 1) := by decide +kernel
theorem dX4_recount_74 : decode cX4_recount 74 = .ok (.bipush (-3), 2) := by decide +kernel
theorem dX4_recount_76 : decode cX4_recount 76 = .ok (.invokevirtual 51, 3) := by decide +kernel
theorem dX4_recount_79 : decode cX4_recount 79 = .ok (.ireturn, 1) := by decide +kernel
theorem dX4_recount_80 : decode cX4_recount 80 = .ok (.iload_n 3, 1) := by decide +kernel
theorem dX4_recount_81 : decode cX4_recount 81 = .ok (.iload 4, 2) := by decide +kernel
theorem dX4_recount_83 : decode cX4_recount 83 = .ok (.invokestatic 165, 3) := by decide +kernel
theorem dX4_recount_86 : decode cX4_recount 86 = .ok (.istore 5, 2) := by decide +kernel
theorem dX4_recount_88 : decode cX4_recount 88 = .ok (.iload_n 3, 1) := by decide +kernel
theorem dX4_recount_89 : decode cX4_recount 89 = .ok (.iload 4, 2) := by decide +kernel
theorem dX4_recount_91 : decode cX4_recount 91 = .ok (.invokestatic 170, 3) := by decide +kernel
theorem dX4_recount_94 : decode cX4_recount 94 = .ok (.istore 6, 2) := by decide +kernel
theorem dX4_recount_96 : decode cX4_recount 96 = .ok (.lconst 0, 1) := by decide +kernel
theorem dX4_recount_97 : decode cX4_recount 97 = .ok (.lstore 7, 2) := by decide +kernel
theorem dX4_recount_99 : decode cX4_recount 99 = .ok (.iload_n 2, 1) := by decide +kernel
theorem dX4_recount_100 : decode cX4_recount 100 = .ok (.iconst 2, 1) := by decide +kernel
theorem dX4_recount_101 : decode cX4_recount 101 = .ok (.idiv, 1) := by decide +kernel
theorem dX4_recount_102 : decode cX4_recount 102 = .ok (.iconst 1, 1) := by decide +kernel
theorem dX4_recount_103 : decode cX4_recount 103 = .ok (.iadd, 1) := by decide +kernel
theorem dX4_recount_104 : decode cX4_recount 104 = .ok (.istore 9, 2) := by decide +kernel
theorem dX4_recount_106 : decode cX4_recount 106 = .ok (.iload 9, 2) := by decide +kernel
theorem dX4_recount_108 : decode cX4_recount 108 = .ok (.iload_n 2, 1) := by decide +kernel
theorem dX4_recount_109 : decode cX4_recount 109 = .ok (.if_icmp .gt 31, 3) := by decide +kernel
theorem dX4_recount_112 : decode cX4_recount 112 = .ok (.lload 7, 2) := by decide +kernel
theorem dX4_recount_114 : decode cX4_recount 114 = .ok (.iload 5, 2) := by decide +kernel
theorem dX4_recount_116 : decode cX4_recount 116 = .ok (.iload 9, 2) := by decide +kernel
theorem dX4_recount_118 : decode cX4_recount 118 = .ok (.invokestatic 173, 3) := by decide +kernel
theorem dX4_recount_121 : decode cX4_recount 121 = .ok (.iload 6, 2) := by decide +kernel
theorem dX4_recount_123 : decode cX4_recount 123 = .ok (.iload_n 2, 1) := by decide +kernel
theorem dX4_recount_124 : decode cX4_recount 124 = .ok (.iload 9, 2) := by decide +kernel
theorem dX4_recount_126 : decode cX4_recount 126 = .ok (.isub, 1) := by decide +kernel
theorem dX4_recount_127 : decode cX4_recount 127 = .ok (.invokestatic 173, 3) := by decide +kernel
theorem dX4_recount_130 : decode cX4_recount 130 = .ok (.lmul, 1) := by decide +kernel
theorem dX4_recount_131 : decode cX4_recount 131 = .ok (.ladd, 1) := by decide +kernel
theorem dX4_recount_132 : decode cX4_recount 132 = .ok (.lstore 7, 2) := by decide +kernel
theorem dX4_recount_134 : decode cX4_recount 134 = .ok (.iinc 9 1, 3) := by decide +kernel
theorem dX4_recount_137 : decode cX4_recount 137 = .ok (.goto (-31), 3) := by decide +kernel
theorem dX4_recount_140 : decode cX4_recount 140 = .ok (.aload_n 0, 1) := by decide +kernel
theorem dX4_recount_141 : decode cX4_recount 141 = .ok (.getfield 32, 3) := by decide +kernel
theorem dX4_recount_144 : decode cX4_recount 144 = .ok (.lload 7, 2) := by decide +kernel
theorem dX4_recount_146 : decode cX4_recount 146 = .ok (.iload 5, 2) := by decide +kernel
theorem dX4_recount_148 : decode cX4_recount 148 = .ok (.iload 6, 2) := by decide +kernel
theorem dX4_recount_150 : decode cX4_recount 150 = .ok (.iadd, 1) := by decide +kernel
theorem dX4_recount_151 : decode cX4_recount 151 = .ok (.iload_n 2, 1) := by decide +kernel
theorem dX4_recount_152 : decode cX4_recount 152 = .ok (.invokestatic 173, 3) := by decide +kernel
theorem dX4_recount_155 : decode cX4_recount 155 = .ok (.invokevirtual 135, 3) := by decide +kernel
theorem dX4_recount_158 : decode cX4_recount 158 = .ok (.iconst 1, 1) := by decide +kernel
theorem dX4_recount_159 : decode cX4_recount 159 = .ok (.ireturn, 1) := by decide +kernel
theorem dX4_year_0 : decode cX4_year 0 = .ok (.iload_n 1, 1) := by decide +kernel
theorem dX4_year_1 : decode cX4_year 1 = .ok (.iconst (-1), 1) := by decide +kernel
theorem dX4_year_2 : decode cX4_year 2 = .ok (.if_icmp .eq 18, 3) := by decide +kernel
theorem dX4_year_5 : decode cX4_year 5 = .ok (.aload_n 0, 1) := by decide +kernel
theorem dX4_year_6 : decode cX4_year 6 = .ok (.iload_n 1, 1) := by decide +kernel
theorem dX4_year_7 : decode cX4_year 7 = .ok (.invokevirtual 109, 3) := by decide +kernel
theorem dX4_year_10 : decode cX4_year 10 = .ok (.ifCond .ne 10, 3) := by decide +kernel
theorem dX4_year_13 : decode cX4_year 13 = .ok (.aload_n 0, 1) := by decide +kernel
theorem dX4_year_14 : decode cX4_year 14 = .ok (.bipush (-2), 2) := by decide +kernel
theorem dX4_year_16 : decode cX4_year 16 = .ok (.invokevirtual 51, 3) := by decide +kernel
theorem dX4_year_19 : decode cX4_year 19 = .ok (.ireturn, 1) := by decide +kernel
theorem dX4_year_20 : decode cX4_year 20 = .ok (.aload_n 0, 1) := by decide +kernel
theorem dX4_year_21 : decode cX4_year 21 = .ok (.getfield 10, 3) := by decide +kernel
theorem dX4_year_24 : decode cX4_year 24 = .ok (.invokevirtual 177, 3) := by decide +kernel
theorem dX4_year_27 : decode cX4_year 27 = .ok (.aload_n 0, 1) := by decide +kernel
theorem dX4_year_28 : decode cX4_year 28 = .ok (.getfield 10, 3) := by decide +kernel
theorem dX4_year_31 : decode cX4_year 31 = .ok (.getfield 55, 3) := by decide +kernel
theorem dX4_year_34 : decode cX4_year 34 = .ok (.iload_n 1, 1) := by decide +kernel
theorem dX4_year_35 : decode cX4_year 35 = .ok (.invokevirtual 180, 3) := by decide +kernel
theorem dX4_year_38 : decode cX4_year 38 = .ok (.ireturn, 1) := by decide +kernel
theorem dX4_undo_0 : decode cX4_undo 0 = .ok (.aload_n 0, 1) := by decide +kernel
theorem dX4_undo_1 : decode cX4_undo 1 = .ok (.getfield 10, 3) := by decide +kernel
theorem dX4_undo_4 : decode cX4_undo 4 = .ok (.invokevirtual 183, 3) := by decide +kernel
theorem dX4_undo_7 : decode cX4_undo 7 = .ok (.ifCond .eq 7, 3) := by decide +kernel
theorem dX4_undo_10 : decode cX4_undo 10 = .ok (.iconst 1, 1) := by decide +kernel
theorem dX4_undo_11 : decode cX4_undo 11 = .ok (.goto 9, 3) := by decide +kernel
theorem dX4_undo_14 : decode cX4_undo 14 = .ok (.aload_n 0, 1) := by decide +kernel
theorem dX4_undo_15 : decode cX4_undo 15 = .ok (.bipush (-3), 2) := by decide +kernel
theorem dX4_undo_17 : decode cX4_undo 17 = .ok (.invokevirtual 51, 3) := by decide +kernel
theorem dX4_undo_20 : decode cX4_undo 20 = .ok (.ireturn, 1) := by decide +kernel
theorem dX4_drawn_0 : decode cX4_drawn 0 = .ok (.iload_n 1, 1) := by decide +kernel
theorem dX4_drawn_1 : decode cX4_drawn 1 = .ok (.iconst 0, 1) := by decide +kernel
theorem dX4_drawn_2 : decode cX4_drawn 2 = .ok (.ldc 187, 2) := by decide +kernel
theorem dX4_drawn_4 : decode cX4_drawn 4 = .ok (.invokestatic 43, 3) := by decide +kernel
theorem dX4_drawn_7 : decode cX4_drawn 7 = .ok (.ifCond .eq 13, 3) := by decide +kernel
theorem dX4_drawn_10 : decode cX4_drawn 10 = .ok (.iload_n 2, 1) := by decide +kernel
theorem dX4_drawn_11 : decode cX4_drawn 11 = .ok (.iconst 0, 1) := by decide +kernel
theorem dX4_drawn_12 : decode cX4_drawn 12 = .ok (.bipush 20, 2) := by decide +kernel
theorem dX4_drawn_14 : decode cX4_drawn 14 = .ok (.invokestatic 43, 3) := by decide +kernel
theorem dX4_drawn_17 : decode cX4_drawn 17 = .ok (.ifCond .ne 14, 3) := by decide +kernel
theorem dX4_drawn_20 : decode cX4_drawn 20 = .ok (.aload_n 0, 1) := by decide +kernel
theorem dX4_drawn_21 : decode cX4_drawn 21 = .ok (.bipush (-2), 2) := by decide +kernel
theorem dX4_drawn_23 : decode cX4_drawn 23 = .ok (.invokevirtual 51, 3) := by decide +kernel
theorem dX4_drawn_26 : decode cX4_drawn 26 = .ok (.pop, 1) := by decide +kernel
theorem dX4_drawn_27 : decode cX4_drawn 27 = .ok (.sipush (-1000), 3) := by decide +kernel
theorem dX4_drawn_30 : decode cX4_drawn 30 = .ok (.ireturn, 1) := by decide +kernel
theorem dX4_drawn_31 : decode cX4_drawn 31 = .ok (.aload_n 0, 1) := by decide +kernel
theorem dX4_drawn_32 : decode cX4_drawn 32 = .ok (.getfield 39, 3) := by decide +kernel
theorem dX4_drawn_35 : decode cX4_drawn 35 = .ok (.aload_n 0, 1) := by decide +kernel
theorem dX4_drawn_36 : decode cX4_drawn 36 = .ok (.getfield 10, 3) := by decide +kernel
theorem dX4_drawn_39 : decode cX4_drawn 39 = .ok (.getfield 55, 3) := by decide +kernel
theorem dX4_drawn_42 : decode cX4_drawn 42 = .ok (.invokevirtual 102, 3) := by decide +kernel
theorem dX4_drawn_45 : decode cX4_drawn 45 = .ok (.aload_n 0, 1) := by decide +kernel
theorem dX4_drawn_46 : decode cX4_drawn 46 = .ok (.getfield 39, 3) := by decide +kernel
theorem dX4_drawn_49 : decode cX4_drawn 49 = .ok (.invokevirtual 131, 3) := by decide +kernel
theorem dX4_drawn_52 : decode cX4_drawn 52 = .ok (.i2l, 1) := by decide +kernel
theorem dX4_drawn_53 : decode cX4_drawn 53 = .ok (.lconst 1, 1) := by decide +kernel
theorem dX4_drawn_54 : decode cX4_drawn 54 = .ok (.ladd, 1) := by decide +kernel
theorem dX4_drawn_55 : decode cX4_drawn 55 = .ok (.lstore_n 3, 1) := by decide +kernel
theorem dX4_drawn_56 : decode cX4_drawn 56 = .ok (.iload_n 1, 1) := by decide +kernel
theorem dX4_drawn_57 : decode cX4_drawn 57 = .ok (.i2l, 1) := by decide +kernel
theorem dX4_drawn_58 : decode cX4_drawn 58 = .ok (.lstore 5, 2) := by decide +kernel
theorem dX4_drawn_60 : decode cX4_drawn 60 = .ok (.iconst 0, 1) := by decide +kernel
theorem dX4_drawn_61 : decode cX4_drawn 61 = .ok (.istore 7, 2) := by decide +kernel
theorem dX4_drawn_63 : decode cX4_drawn 63 = .ok (.iconst 0, 1) := by decide +kernel
theorem dX4_drawn_64 : decode cX4_drawn 64 = .ok (.istore 8, 2) := by decide +kernel
theorem dX4_drawn_66 : decode cX4_drawn 66 = .ok (.iload 8, 2) := by decide +kernel
theorem dX4_drawn_68 : decode cX4_drawn 68 = .ok (.iload_n 2, 1) := by decide +kernel
theorem dX4_drawn_69 : decode cX4_drawn 69 = .ok (.if_icmp .ge 102, 3) := by decide +kernel
theorem dX4_drawn_72 : decode cX4_drawn 72 = .ok (.lload_n 3, 1) := by decide +kernel
theorem dX4_drawn_73 : decode cX4_drawn 73 = .ok (.lconst 0, 1) := by decide +kernel
theorem dX4_drawn_74 : decode cX4_drawn 74 = .ok (.lcmp, 1) := by decide +kernel
theorem dX4_drawn_75 : decode cX4_drawn 75 = .ok (.ifCond .le 96, 3) := by decide +kernel
theorem dX4_drawn_78 : decode cX4_drawn 78 = .ok (.lload 5, 2) := by decide +kernel
theorem dX4_drawn_80 : decode cX4_drawn 80 = .ok (.ldc2_w 188, 3) := by decide +kernel
theorem dX4_drawn_83 : decode cX4_drawn 83 = .ok (.lmul, 1) := by decide +kernel
theorem dX4_drawn_84 : decode cX4_drawn 84 = .ok (.ldc2_w 190, 3) := by decide +kernel
theorem dX4_drawn_87 : decode cX4_drawn 87 = .ok (.ladd, 1) := by decide +kernel
theorem dX4_drawn_88 : decode cX4_drawn 88 = .ok (.ldc2_w 192, 3) := by decide +kernel
theorem dX4_drawn_91 : decode cX4_drawn 91 = .ok (.lrem, 1) := by decide +kernel
theorem dX4_drawn_92 : decode cX4_drawn 92 = .ok (.lstore 5, 2) := by decide +kernel
theorem dX4_drawn_94 : decode cX4_drawn 94 = .ok (.aload_n 0, 1) := by decide +kernel
theorem dX4_drawn_95 : decode cX4_drawn 95 = .ok (.getfield 39, 3) := by decide +kernel
theorem dX4_drawn_98 : decode cX4_drawn 98 = .ok (.lload 5, 2) := by decide +kernel
theorem dX4_drawn_100 : decode cX4_drawn 100 = .ok (.ldc2_w 194, 3) := by decide +kernel
theorem dX4_drawn_103 : decode cX4_drawn 103 = .ok (.ldiv, 1) := by decide +kernel
theorem dX4_drawn_104 : decode cX4_drawn 104 = .ok (.lload_n 3, 1) := by decide +kernel
theorem dX4_drawn_105 : decode cX4_drawn 105 = .ok (.lrem, 1) := by decide +kernel
theorem dX4_drawn_106 : decode cX4_drawn 106 = .ok (.invokevirtual 196, 3) := by decide +kernel
theorem dX4_drawn_109 : decode cX4_drawn 109 = .ok (.istore 9, 2) := by decide +kernel
theorem dX4_drawn_111 : decode cX4_drawn 111 = .ok (.iload 9, 2) := by decide +kernel
theorem dX4_drawn_113 : decode cX4_drawn 113 = .ok (.iconst (-1), 1) := by decide +kernel
theorem dX4_drawn_114 : decode cX4_drawn 114 = .ok (.if_icmp .ne 7, 3) := by decide +kernel
theorem dX4_drawn_117 : decode cX4_drawn 117 = .ok (.iconst (-1), 1) := by decide +kernel
theorem dX4_drawn_118 : decode cX4_drawn 118 = .ok (.goto 15, 3) := by decide +kernel
theorem dX4_drawn_121 : decode cX4_drawn 121 = .ok (.aload_n 0, 1) := by decide +kernel
theorem dX4_drawn_122 : decode cX4_drawn 122 = .ok (.getfield 39, 3) := by decide +kernel
theorem dX4_drawn_125 : decode cX4_drawn 125 = .ok (.iload 9, 2) := by decide +kernel
theorem dX4_drawn_127 : decode cX4_drawn 127 = .ok (.invokevirtual 122, 3) := by decide +kernel
theorem dX4_drawn_130 : decode cX4_drawn 130 = .ok (.invokestatic 125, 3) := by decide +kernel
theorem dX4_drawn_133 : decode cX4_drawn 133 = .ok (.istore 10, 2) := by decide +kernel
theorem dX4_drawn_135 : decode cX4_drawn 135 = .ok (.iload 10, 2) := by decide +kernel
theorem dX4_drawn_137 : decode cX4_drawn 137 = .ok (.ifCond .ne 9, 3) := by decide +kernel
theorem dX4_drawn_140 : decode cX4_drawn 140 = .ok (.iinc 7 1, 3) := by decide +kernel
theorem dX4_drawn_143 : decode cX4_drawn 143 = .ok (.goto 12, 3) := by decide +kernel
theorem dX4_drawn_146 : decode cX4_drawn 146 = .ok (.iload 10, 2) := by decide +kernel
theorem dX4_drawn_148 : decode cX4_drawn 148 = .ok (.iconst 1, 1) := by decide +kernel
theorem dX4_drawn_149 : decode cX4_drawn 149 = .ok (.if_icmp .ne 6, 3) := by decide +kernel
theorem dX4_drawn_152 : decode cX4_drawn 152 = .ok (.iinc 7 (-1), 3) := by decide +kernel
theorem dX4_drawn_155 : decode cX4_drawn 155 = .ok (.aload_n 0, 1) := by decide +kernel
theorem dX4_drawn_156 : decode cX4_drawn 156 = .ok (.getfield 39, 3) := by decide +kernel
theorem dX4_drawn_159 : decode cX4_drawn 159 = .ok (.iload 9, 2) := by decide +kernel
theorem dX4_drawn_161 : decode cX4_drawn 161 = .ok (.invokevirtual 180, 3) := by decide +kernel
theorem dX4_drawn_164 : decode cX4_drawn 164 = .ok (.pop, 1) := by decide +kernel
theorem dX4_drawn_165 : decode cX4_drawn 165 = .ok (.iinc 8 1, 3) := by decide +kernel
theorem dX4_drawn_168 : decode cX4_drawn 168 = .ok (.goto (-102), 3) := by decide +kernel
theorem dX4_drawn_171 : decode cX4_drawn 171 = .ok (.iload 7, 2) := by decide +kernel
theorem dX4_drawn_173 : decode cX4_drawn 173 = .ok (.ireturn, 1) := by decide +kernel
theorem dX4_part_0 : decode cX4_part 0 = .ok (.iload_n 1, 1) := by decide +kernel
theorem dX4_part_1 : decode cX4_part 1 = .ok (.iconst 0, 1) := by decide +kernel
theorem dX4_part_2 : decode cX4_part 2 = .ok (.iconst 1, 1) := by decide +kernel
theorem dX4_part_3 : decode cX4_part 3 = .ok (.invokestatic 43, 3) := by decide +kernel
theorem dX4_part_6 : decode cX4_part 6 = .ok (.ifCond .ne 14, 3) := by decide +kernel
theorem dX4_part_9 : decode cX4_part 9 = .ok (.aload_n 0, 1) := by decide +kernel
theorem dX4_part_10 : decode cX4_part 10 = .ok (.bipush (-2), 2) := by decide +kernel
theorem dX4_part_12 : decode cX4_part 12 = .ok (.invokevirtual 51, 3) := by decide +kernel
theorem dX4_part_15 : decode cX4_part 15 = .ok (.pop, 1) := by decide +kernel
theorem dX4_part_16 : decode cX4_part 16 = .ok (.ldc2_w 200, 3) := by decide +kernel
theorem dX4_part_19 : decode cX4_part 19 = .ok (.lreturn, 1) := by decide +kernel
theorem dX4_part_20 : decode cX4_part 20 = .ok (.iload_n 1, 1) := by decide +kernel
theorem dX4_part_21 : decode cX4_part 21 = .ok (.ifCond .ne 13, 3) := by decide +kernel
theorem dX4_part_24 : decode cX4_part 24 = .ok (.aload_n 0, 1) := by decide +kernel
theorem dX4_part_25 : decode cX4_part 25 = .ok (.getfield 32, 3) := by decide +kernel
theorem dX4_part_28 : decode cX4_part 28 = .ok (.getfield 202, 3) := by decide +kernel
theorem dX4_part_31 : decode cX4_part 31 = .ok (.goto 10, 3) := by decide +kernel
theorem dX4_part_34 : decode cX4_part 34 = .ok (.aload_n 0, 1) := by decide +kernel
theorem dX4_part_35 : decode cX4_part 35 = .ok (.getfield 32, 3) := by decide +kernel
theorem dX4_part_38 : decode cX4_part 38 = .ok (.getfield 206, 3) := by decide +kernel
theorem dX4_part_41 : decode cX4_part 41 = .ok (.lreturn, 1) := by decide +kernel
theorem dX4_image_0 : decode cX4_image 0 = .ok (.iload_n 1, 1) := by decide +kernel
theorem dX4_image_1 : decode cX4_image 1 = .ok (.iconst 0, 1) := by decide +kernel
theorem dX4_image_2 : decode cX4_image 2 = .ok (.iconst 1, 1) := by decide +kernel
theorem dX4_image_3 : decode cX4_image 3 = .ok (.invokestatic 43, 3) := by decide +kernel
theorem dX4_image_6 : decode cX4_image 6 = .ok (.ifCond .ne 10, 3) := by decide +kernel
theorem dX4_image_9 : decode cX4_image 9 = .ok (.aload_n 0, 1) := by decide +kernel
theorem dX4_image_10 : decode cX4_image 10 = .ok (.bipush (-2), 2) := by decide +kernel
theorem dX4_image_12 : decode cX4_image 12 = .ok (.invokevirtual 51, 3) := by decide +kernel
theorem dX4_image_15 : decode cX4_image 15 = .ok (.ireturn, 1) := by decide +kernel
theorem dX4_image_16 : decode cX4_image 16 = .ok (.iload_n 1, 1) := by decide +kernel
theorem dX4_image_17 : decode cX4_image 17 = .ok (.ifCond .ne 10, 3) := by decide +kernel
theorem dX4_image_20 : decode cX4_image 20 = .ok (.aload_n 0, 1) := by decide +kernel
theorem dX4_image_21 : decode cX4_image 21 = .ok (.getfield 16, 3) := by decide +kernel
theorem dX4_image_24 : decode cX4_image 24 = .ok (.goto 7, 3) := by decide +kernel
theorem dX4_image_27 : decode cX4_image 27 = .ok (.aload_n 0, 1) := by decide +kernel
theorem dX4_image_28 : decode cX4_image 28 = .ok (.getfield 19, 3) := by decide +kernel
theorem dX4_image_31 : decode cX4_image 31 = .ok (.astore_n 2, 1) := by decide +kernel
theorem dX4_image_32 : decode cX4_image 32 = .ok (.aload_n 2, 1) := by decide +kernel
theorem dX4_image_33 : decode cX4_image 33 = .ok (.aload_n 0, 1) := by decide +kernel
theorem dX4_image_34 : decode cX4_image 34 = .ok (.getfield 10, 3) := by decide +kernel
theorem dX4_image_37 : decode cX4_image 37 = .ok (.invokevirtual 209, 3) := by decide +kernel
theorem dX4_image_40 : decode cX4_image 40 = .ok (.aload_n 2, 1) := by decide +kernel
theorem dX4_image_41 : decode cX4_image 41 = .ok (.iconst 1, 1) := by decide +kernel
theorem dX4_image_42 : decode cX4_image 42 = .ok (.putfield 212, 3) := by decide +kernel
theorem dX4_image_45 : decode cX4_image 45 = .ok (.iconst 1, 1) := by decide +kernel
theorem dX4_image_46 : decode cX4_image 46 = .ok (.ireturn, 1) := by decide +kernel
theorem dX4_from_0 : decode cX4_from 0 = .ok (.iload_n 1, 1) := by decide +kernel
theorem dX4_from_1 : decode cX4_from 1 = .ok (.iconst 0, 1) := by decide +kernel
theorem dX4_from_2 : decode cX4_from 2 = .ok (.iconst 1, 1) := by decide +kernel
theorem dX4_from_3 : decode cX4_from 3 = .ok (.invokestatic 43, 3) := by decide +kernel
theorem dX4_from_6 : decode cX4_from 6 = .ok (.ifCond .ne 10, 3) := by decide +kernel
theorem dX4_from_9 : decode cX4_from 9 = .ok (.aload_n 0, 1) := by decide +kernel
theorem dX4_from_10 : decode cX4_from 10 = .ok (.bipush (-2), 2) := by decide +kernel
theorem dX4_from_12 : decode cX4_from 12 = .ok (.invokevirtual 51, 3) := by decide +kernel
theorem dX4_from_15 : decode cX4_from 15 = .ok (.ireturn, 1) := by decide +kernel
theorem dX4_from_16 : decode cX4_from 16 = .ok (.iload_n 1, 1) := by decide +kernel
theorem dX4_from_17 : decode cX4_from 17 = .ok (.ifCond .ne 10, 3) := by decide +kernel
theorem dX4_from_20 : decode cX4_from 20 = .ok (.aload_n 0, 1) := by decide +kernel
theorem dX4_from_21 : decode cX4_from 21 = .ok (.getfield 16, 3) := by decide +kernel
theorem dX4_from_24 : decode cX4_from 24 = .ok (.goto 7, 3) := by decide +kernel
theorem dX4_from_27 : decode cX4_from 27 = .ok (.aload_n 0, 1) := by decide +kernel
theorem dX4_from_28 : decode cX4_from 28 = .ok (.getfield 19, 3) := by decide +kernel
theorem dX4_from_31 : decode cX4_from 31 = .ok (.astore_n 2, 1) := by decide +kernel
theorem dX4_from_32 : decode cX4_from 32 = .ok (.aload_n 2, 1) := by decide +kernel
theorem dX4_from_33 : decode cX4_from 33 = .ok (.getfield 212, 3) := by decide +kernel
theorem dX4_from_36 : decode cX4_from 36 = .ok (.ifCond .ne 10, 3) := by decide +kernel
theorem dX4_from_39 : decode cX4_from 39 = .ok (.aload_n 0, 1) := by decide +kernel
theorem dX4_from_40 : decode cX4_from 40 = .ok (.bipush (-3), 2) := by decide +kernel
theorem dX4_from_42 : decode cX4_from 42 = .ok (.invokevirtual 51, 3) := by decide +kernel
theorem dX4_from_45 : decode cX4_from 45 = .ok (.ireturn, 1) := by decide +kernel
theorem dX4_from_46 : decode cX4_from 46 = .ok (.aload_n 0, 1) := by decide +kernel
theorem dX4_from_47 : decode cX4_from 47 = .ok (.getfield 10, 3) := by decide +kernel
theorem dX4_from_50 : decode cX4_from 50 = .ok (.aload_n 2, 1) := by decide +kernel
theorem dX4_from_51 : decode cX4_from 51 = .ok (.invokevirtual 209, 3) := by decide +kernel
theorem dX4_from_54 : decode cX4_from 54 = .ok (.iconst 1, 1) := by decide +kernel
theorem dX4_from_55 : decode cX4_from 55 = .ok (.ireturn, 1) := by decide +kernel
theorem dX4_status_0 : decode cX4_status 0 = .ok (.iload_n 1, 1) := by decide +kernel
theorem dX4_status_1 : decode cX4_status 1 = .ok (.tableswitch 42 0 2 #[27, 32, 37], 27) := by decide +kernel
theorem dX4_status_28 : decode cX4_status 28 = .ok (.aload_n 0, 1) := by decide +kernel
theorem dX4_status_29 : decode cX4_status 29 = .ok (.getfield 216, 3) := by decide +kernel
theorem dX4_status_32 : decode cX4_status 32 = .ok (.ireturn, 1) := by decide +kernel
theorem dX4_status_33 : decode cX4_status 33 = .ok (.aload_n 0, 1) := by decide +kernel
theorem dX4_status_34 : decode cX4_status 34 = .ok (.getfield 219, 3) := by decide +kernel
theorem dX4_status_37 : decode cX4_status 37 = .ok (.ireturn, 1) := by decide +kernel
theorem dX4_status_38 : decode cX4_status 38 = .ok (.aload_n 0, 1) := by decide +kernel
theorem dX4_status_39 : decode cX4_status 39 = .ok (.getfield 222, 3) := by decide +kernel
theorem dX4_status_42 : decode cX4_status 42 = .ok (.ireturn, 1) := by decide +kernel
theorem dX4_status_43 : decode cX4_status 43 = .ok (.aload_n 0, 1) := by decide +kernel
theorem dX4_status_44 : decode cX4_status 44 = .ok (.bipush (-2), 2) := by decide +kernel
theorem dX4_status_46 : decode cX4_status 46 = .ok (.invokevirtual 51, 3) := by decide +kernel
theorem dX4_status_49 : decode cX4_status 49 = .ok (.pop, 1) := by decide +kernel
theorem dX4_status_50 : decode cX4_status 50 = .ok (.iconst (-1), 1) := by decide +kernel
theorem dX4_status_51 : decode cX4_status 51 = .ok (.ireturn, 1) := by decide +kernel
end
section
theorem dX4_count_0 : decode cX4_count 0 = .ok (.iload_n 1, 1) := by decide +kernel
theorem dX4_count_1 : decode cX4_count 1 = .ok (.tableswitch 99 0 5 #[39, 50, 61, 72, 83, 91], 39) := by decide +kernel
theorem dX4_count_40 : decode cX4_count 40 = .ok (.aload_n 0, 1) := by decide +kernel
theorem dX4_count_41 : decode cX4_count 41 = .ok (.getfield 10, 3) := by decide +kernel
theorem dX4_count_44 : decode cX4_count 44 = .ok (.getfield 55, 3) := by decide +kernel
theorem dX4_count_47 : decode cX4_count 47 = .ok (.getfield 58, 3) := by decide +kernel
theorem dX4_count_50 : decode cX4_count 50 = .ok (.ireturn, 1) := by decide +kernel
theorem dX4_count_51 : decode cX4_count 51 = .ok (.aload_n 0, 1) := by decide +kernel
theorem dX4_count_52 : decode cX4_count 52 = .ok (.getfield 10, 3) := by decide +kernel
theorem dX4_count_55 : decode cX4_count 55 = .ok (.getfield 55, 3) := by decide +kernel
theorem dX4_count_58 : decode cX4_count 58 = .ok (.getfield 66, 3) := by decide +kernel
theorem dX4_count_61 : decode cX4_count 61 = .ok (.ireturn, 1) := by decide +kernel
theorem dX4_count_62 : decode cX4_count 62 = .ok (.aload_n 0, 1) := by decide +kernel
theorem dX4_count_63 : decode cX4_count 63 = .ok (.getfield 10, 3) := by decide +kernel
theorem dX4_count_66 : decode cX4_count 66 = .ok (.getfield 55, 3) := by decide +kernel
theorem dX4_count_69 : decode cX4_count 69 = .ok (.invokevirtual 225, 3) := by decide +kernel
theorem dX4_count_72 : decode cX4_count 72 = .ok (.ireturn, 1) := by decide +kernel
theorem dX4_count_73 : decode cX4_count 73 = .ok (.aload_n 0, 1) := by decide +kernel
theorem dX4_count_74 : decode cX4_count 74 = .ok (.getfield 10, 3) := by decide +kernel
theorem dX4_count_77 : decode cX4_count 77 = .ok (.getfield 55, 3) := by decide +kernel
theorem dX4_count_80 : decode cX4_count 80 = .ok (.getfield 228, 3) := by decide +kernel
theorem dX4_count_83 : decode cX4_count 83 = .ok (.ireturn, 1) := by decide +kernel
theorem dX4_count_84 : decode cX4_count 84 = .ok (.aload_n 0, 1) := by decide +kernel
theorem dX4_count_85 : decode cX4_count 85 = .ok (.getfield 10, 3) := by decide +kernel
theorem dX4_count_88 : decode cX4_count 88 = .ok (.getfield 106, 3) := by decide +kernel
theorem dX4_count_91 : decode cX4_count 91 = .ok (.ireturn, 1) := by decide +kernel
theorem dX4_count_92 : decode cX4_count 92 = .ok (.aload_n 0, 1) := by decide +kernel
theorem dX4_count_93 : decode cX4_count 93 = .ok (.getfield 25, 3) := by decide +kernel
theorem dX4_count_96 : decode cX4_count 96 = .ok (.getfield 91, 3) := by decide +kernel
theorem dX4_count_99 : decode cX4_count 99 = .ok (.ireturn, 1) := by decide +kernel
theorem dX4_count_100 : decode cX4_count 100 = .ok (.aload_n 0, 1) := by decide +kernel
theorem dX4_count_101 : decode cX4_count 101 = .ok (.bipush (-2), 2) := by decide +kernel
theorem dX4_count_103 : decode cX4_count 103 = .ok (.invokevirtual 51, 3) := by decide +kernel
theorem dX4_count_106 : decode cX4_count 106 = .ok (.ireturn, 1) := by decide +kernel
theorem dX4_digest_0 : decode cX4_digest 0 = .ok (.ldc2_w 231, 3) := by decide +kernel
theorem dX4_digest_3 : decode cX4_digest 3 = .ok (.lstore_n 1, 1) := by decide +kernel
theorem dX4_digest_4 : decode cX4_digest 4 = .ok (.iconst 0, 1) := by decide +kernel
theorem dX4_digest_5 : decode cX4_digest 5 = .ok (.istore_n 3, 1) := by decide +kernel
theorem dX4_digest_6 : decode cX4_digest 6 = .ok (.iload_n 3, 1) := by decide +kernel
theorem dX4_digest_7 : decode cX4_digest 7 = .ok (.iconst 5, 1) := by decide +kernel
theorem dX4_digest_8 : decode cX4_digest 8 = .ok (.if_icmp .gt 22, 3) := by decide +kernel
theorem dX4_digest_11 : decode cX4_digest 11 = .ok (.ldc2_w 233, 3) := by decide +kernel
theorem dX4_digest_14 : decode cX4_digest 14 = .ok (.lload_n 1, 1) := by decide +kernel
theorem dX4_digest_15 : decode cX4_digest 15 = .ok (.lmul, 1) := by decide +kernel
theorem dX4_digest_16 : decode cX4_digest 16 = .ok (.aload_n 0, 1) := by decide +kernel
theorem dX4_digest_17 : decode cX4_digest 17 = .ok (.iload_n 3, 1) := by decide +kernel
theorem dX4_digest_18 : decode cX4_digest 18 = .ok (.invokevirtual 235, 3) := by decide +kernel
theorem dX4_digest_21 : decode cX4_digest 21 = .ok (.i2l, 1) := by decide +kernel
theorem dX4_digest_22 : decode cX4_digest 22 = .ok (.ladd, 1) := by decide +kernel
theorem dX4_digest_23 : decode cX4_digest 23 = .ok (.lstore_n 1, 1) := by decide +kernel
theorem dX4_digest_24 : decode cX4_digest 24 = .ok (.iinc 3 1, 3) := by decide +kernel
theorem dX4_digest_27 : decode cX4_digest 27 = .ok (.goto (-21), 3) := by decide +kernel
theorem dX4_digest_30 : decode cX4_digest 30 = .ok (.aload_n 0, 1) := by decide +kernel
theorem dX4_digest_31 : decode cX4_digest 31 = .ok (.getfield 10, 3) := by decide +kernel
theorem dX4_digest_34 : decode cX4_digest 34 = .ok (.getfield 55, 3) := by decide +kernel
theorem dX4_digest_37 : decode cX4_digest 37 = .ok (.lload_n 1, 1) := by decide +kernel
theorem dX4_digest_38 : decode cX4_digest 38 = .ok (.invokevirtual 238, 3) := by decide +kernel
theorem dX4_digest_41 : decode cX4_digest 41 = .ok (.lstore_n 1, 1) := by decide +kernel
theorem dX4_digest_42 : decode cX4_digest 42 = .ok (.aload_n 0, 1) := by decide +kernel
theorem dX4_digest_43 : decode cX4_digest 43 = .ok (.getfield 10, 3) := by decide +kernel
theorem dX4_digest_46 : decode cX4_digest 46 = .ok (.getfield 55, 3) := by decide +kernel
theorem dX4_digest_49 : decode cX4_digest 49 = .ok (.lload_n 1, 1) := by decide +kernel
theorem dX4_digest_50 : decode cX4_digest 50 = .ok (.invokevirtual 242, 3) := by decide +kernel
theorem dX4_digest_53 : decode cX4_digest 53 = .ok (.lstore_n 1, 1) := by decide +kernel
theorem dX4_digest_54 : decode cX4_digest 54 = .ok (.aload_n 0, 1) := by decide +kernel
theorem dX4_digest_55 : decode cX4_digest 55 = .ok (.getfield 10, 3) := by decide +kernel
theorem dX4_digest_58 : decode cX4_digest 58 = .ok (.getfield 55, 3) := by decide +kernel
theorem dX4_digest_61 : decode cX4_digest 61 = .ok (.lload_n 1, 1) := by decide +kernel
theorem dX4_digest_62 : decode cX4_digest 62 = .ok (.invokevirtual 245, 3) := by decide +kernel
theorem dX4_digest_65 : decode cX4_digest 65 = .ok (.lstore_n 1, 1) := by decide +kernel
theorem dX4_digest_66 : decode cX4_digest 66 = .ok (.ldc2_w 233, 3) := by decide +kernel
theorem dX4_digest_69 : decode cX4_digest 69 = .ok (.lload_n 1, 1) := by decide +kernel
theorem dX4_digest_70 : decode cX4_digest 70 = .ok (.lmul, 1) := by decide +kernel
theorem dX4_digest_71 : decode cX4_digest 71 = .ok (.aload_n 0, 1) := by decide +kernel
theorem dX4_digest_72 : decode cX4_digest 72 = .ok (.getfield 32, 3) := by decide +kernel
theorem dX4_digest_75 : decode cX4_digest 75 = .ok (.getfield 202, 3) := by decide +kernel
theorem dX4_digest_78 : decode cX4_digest 78 = .ok (.ladd, 1) := by decide +kernel
theorem dX4_digest_79 : decode cX4_digest 79 = .ok (.lstore_n 1, 1) := by decide +kernel
theorem dX4_digest_80 : decode cX4_digest 80 = .ok (.ldc2_w 233, 3) := by decide +kernel
theorem dX4_digest_83 : decode cX4_digest 83 = .ok (.lload_n 1, 1) := by decide +kernel
theorem dX4_digest_84 : decode cX4_digest 84 = .ok (.lmul, 1) := by decide +kernel
theorem dX4_digest_85 : decode cX4_digest 85 = .ok (.aload_n 0, 1) := by decide +kernel
theorem dX4_digest_86 : decode cX4_digest 86 = .ok (.getfield 32, 3) := by decide +kernel
theorem dX4_digest_89 : decode cX4_digest 89 = .ok (.getfield 206, 3) := by decide +kernel
theorem dX4_digest_92 : decode cX4_digest 92 = .ok (.ladd, 1) := by decide +kernel
theorem dX4_digest_93 : decode cX4_digest 93 = .ok (.lreturn, 1) := by decide +kernel
theorem dX4_refuse_0 : decode cX4_refuse 0 = .ok (.iload_n 1, 1) := by decide +kernel
theorem dX4_refuse_1 : decode cX4_refuse 1 = .ok (.bipush (-2), 2) := by decide +kernel
theorem dX4_refuse_3 : decode cX4_refuse 3 = .ok (.if_icmp .ne 16, 3) := by decide +kernel
theorem dX4_refuse_6 : decode cX4_refuse 6 = .ok (.aload_n 0, 1) := by decide +kernel
theorem dX4_refuse_7 : decode cX4_refuse 7 = .ok (.dup, 1) := by decide +kernel
theorem dX4_refuse_8 : decode cX4_refuse 8 = .ok (.getfield 216, 3) := by decide +kernel
theorem dX4_refuse_11 : decode cX4_refuse 11 = .ok (.iconst 1, 1) := by decide +kernel
theorem dX4_refuse_12 : decode cX4_refuse 12 = .ok (.iadd, 1) := by decide +kernel
theorem dX4_refuse_13 : decode cX4_refuse 13 = .ok (.putfield 216, 3) := by decide +kernel
theorem dX4_refuse_16 : decode cX4_refuse 16 = .ok (.goto 32, 3) := by decide +kernel
theorem dX4_refuse_19 : decode cX4_refuse 19 = .ok (.iload_n 1, 1) := by decide +kernel
theorem dX4_refuse_20 : decode cX4_refuse 20 = .ok (.bipush (-3), 2) := by decide +kernel
theorem dX4_refuse_22 : decode cX4_refuse 22 = .ok (.if_icmp .ne 16, 3) := by decide +kernel
theorem dX4_refuse_25 : decode cX4_refuse 25 = .ok (.aload_n 0, 1) := by decide +kernel
theorem dX4_refuse_26 : decode cX4_refuse 26 = .ok (.dup, 1) := by decide +kernel
theorem dX4_refuse_27 : decode cX4_refuse 27 = .ok (.getfield 219, 3) := by decide +kernel
theorem dX4_refuse_30 : decode cX4_refuse 30 = .ok (.iconst 1, 1) := by decide +kernel
theorem dX4_refuse_31 : decode cX4_refuse 31 = .ok (.iadd, 1) := by decide +kernel
theorem dX4_refuse_32 : decode cX4_refuse 32 = .ok (.putfield 219, 3) := by decide +kernel
theorem dX4_refuse_35 : decode cX4_refuse 35 = .ok (.goto 13, 3) := by decide +kernel
theorem dX4_refuse_38 : decode cX4_refuse 38 = .ok (.aload_n 0, 1) := by decide +kernel
theorem dX4_refuse_39 : decode cX4_refuse 39 = .ok (.dup, 1) := by decide +kernel
theorem dX4_refuse_40 : decode cX4_refuse 40 = .ok (.getfield 222, 3) := by decide +kernel
theorem dX4_refuse_43 : decode cX4_refuse 43 = .ok (.iconst 1, 1) := by decide +kernel
theorem dX4_refuse_44 : decode cX4_refuse 44 = .ok (.iadd, 1) := by decide +kernel
theorem dX4_refuse_45 : decode cX4_refuse 45 = .ok (.putfield 222, 3) := by decide +kernel
theorem dX4_refuse_48 : decode cX4_refuse 48 = .ok (.iload_n 1, 1) := by decide +kernel
theorem dX4_refuse_49 : decode cX4_refuse 49 = .ok (.ireturn, 1) := by decide +kernel
theorem dX4_isRoof_0 : decode cX4_isRoof 0 = .ok (.iload_n 1, 1) := by decide +kernel
theorem dX4_isRoof_1 : decode cX4_isRoof 1 = .ok (.iconst 0, 1) := by decide +kernel
theorem dX4_isRoof_2 : decode cX4_isRoof 2 = .ok (.aload_n 0, 1) := by decide +kernel
theorem dX4_isRoof_3 : decode cX4_isRoof 3 = .ok (.getfield 10, 3) := by decide +kernel
theorem dX4_isRoof_6 : decode cX4_isRoof 6 = .ok (.getfield 55, 3) := by decide +kernel
theorem dX4_isRoof_9 : decode cX4_isRoof 9 = .ok (.getfield 58, 3) := by decide +kernel
theorem dX4_isRoof_12 : decode cX4_isRoof 12 = .ok (.iconst 1, 1) := by decide +kernel
theorem dX4_isRoof_13 : decode cX4_isRoof 13 = .ok (.isub, 1) := by decide +kernel
theorem dX4_isRoof_14 : decode cX4_isRoof 14 = .ok (.invokestatic 43, 3) := by decide +kernel
theorem dX4_isRoof_17 : decode cX4_isRoof 17 = .ok (.ireturn, 1) := by decide +kernel
theorem dX4_isStorm_0 : decode cX4_isStorm 0 = .ok (.iload_n 1, 1) := by decide +kernel
theorem dX4_isStorm_1 : decode cX4_isStorm 1 = .ok (.iconst 0, 1) := by decide +kernel
theorem dX4_isStorm_2 : decode cX4_isStorm 2 = .ok (.aload_n 0, 1) := by decide +kernel
theorem dX4_isStorm_3 : decode cX4_isStorm 3 = .ok (.getfield 10, 3) := by decide +kernel
theorem dX4_isStorm_6 : decode cX4_isStorm 6 = .ok (.getfield 55, 3) := by decide +kernel
theorem dX4_isStorm_9 : decode cX4_isStorm 9 = .ok (.getfield 66, 3) := by decide +kernel
theorem dX4_isStorm_12 : decode cX4_isStorm 12 = .ok (.iconst 1, 1) := by decide +kernel
theorem dX4_isStorm_13 : decode cX4_isStorm 13 = .ok (.isub, 1) := by decide +kernel
theorem dX4_isStorm_14 : decode cX4_isStorm 14 = .ok (.invokestatic 43, 3) := by decide +kernel
theorem dX4_isStorm_17 : decode cX4_isStorm 17 = .ok (.ireturn, 1) := by decide +kernel
theorem dX4_isPaint_0 : decode cX4_isPaint 0 = .ok (.iload_n 0, 1) := by decide +kernel
theorem dX4_isPaint_1 : decode cX4_isPaint 1 = .ok (.ifCond .eq 8, 3) := by decide +kernel
theorem dX4_isPaint_4 : decode cX4_isPaint 4 = .ok (.iload_n 0, 1) := by decide +kernel
theorem dX4_isPaint_5 : decode cX4_isPaint 5 = .ok (.iconst 1, 1) := by decide +kernel
theorem dX4_isPaint_6 : decode cX4_isPaint 6 = .ok (.if_icmp .ne 7, 3) := by decide +kernel
theorem dX4_isPaint_9 : decode cX4_isPaint 9 = .ok (.iconst 1, 1) := by decide +kernel
theorem dX4_isPaint_10 : decode cX4_isPaint 10 = .ok (.goto 4, 3) := by decide +kernel
theorem dX4_isPaint_13 : decode cX4_isPaint 13 = .ok (.iconst 0, 1) := by decide +kernel
theorem dX4_isPaint_14 : decode cX4_isPaint 14 = .ok (.ireturn, 1) := by decide +kernel
theorem dX4_areTiles_0 : decode cX4_areTiles 0 = .ok (.iload_n 0, 1) := by decide +kernel
theorem dX4_areTiles_1 : decode cX4_areTiles 1 = .ok (.iconst 0, 1) := by decide +kernel
theorem dX4_areTiles_2 : decode cX4_areTiles 2 = .ok (.bipush 9, 2) := by decide +kernel
theorem dX4_areTiles_4 : decode cX4_areTiles 4 = .ok (.invokestatic 43, 3) := by decide +kernel
theorem dX4_areTiles_7 : decode cX4_areTiles 7 = .ok (.ifCond .eq 17, 3) := by decide +kernel
theorem dX4_areTiles_10 : decode cX4_areTiles 10 = .ok (.iload_n 1, 1) := by decide +kernel
theorem dX4_areTiles_11 : decode cX4_areTiles 11 = .ok (.iconst 0, 1) := by decide +kernel
theorem dX4_areTiles_12 : decode cX4_areTiles 12 = .ok (.bipush 9, 2) := by decide +kernel
theorem dX4_areTiles_14 : decode cX4_areTiles 14 = .ok (.invokestatic 43, 3) := by decide +kernel
theorem dX4_areTiles_17 : decode cX4_areTiles 17 = .ok (.ifCond .eq 7, 3) := by decide +kernel
theorem dX4_areTiles_20 : decode cX4_areTiles 20 = .ok (.iconst 1, 1) := by decide +kernel
theorem dX4_areTiles_21 : decode cX4_areTiles 21 = .ok (.goto 4, 3) := by decide +kernel
theorem dX4_areTiles_24 : decode cX4_areTiles 24 = .ok (.iconst 0, 1) := by decide +kernel
theorem dX4_areTiles_25 : decode cX4_areTiles 25 = .ok (.ireturn, 1) := by decide +kernel
theorem dX4_within_0 : decode cX4_within 0 = .ok (.iload_n 0, 1) := by decide +kernel
theorem dX4_within_1 : decode cX4_within 1 = .ok (.iload_n 1, 1) := by decide +kernel
theorem dX4_within_2 : decode cX4_within 2 = .ok (.if_icmp .lt 12, 3) := by decide +kernel
theorem dX4_within_5 : decode cX4_within 5 = .ok (.iload_n 0, 1) := by decide +kernel
theorem dX4_within_6 : decode cX4_within 6 = .ok (.iload_n 2, 1) := by decide +kernel
theorem dX4_within_7 : decode cX4_within 7 = .ok (.if_icmp .gt 7, 3) := by decide +kernel
theorem dX4_within_10 : decode cX4_within 10 = .ok (.iconst 1, 1) := by decide +kernel
theorem dX4_within_11 : decode cX4_within 11 = .ok (.goto 4, 3) := by decide +kernel
theorem dX4_within_14 : decode cX4_within 14 = .ok (.iconst 0, 1) := by decide +kernel
theorem dX4_within_15 : decode cX4_within 15 = .ok (.ireturn, 1) := by decide +kernel
theorem dX5_init_0 : decode cX5_init 0 = .ok (.aload_n 0, 1) := by decide +kernel
theorem dX5_init_1 : decode cX5_init 1 = .ok (.invokespecial 1, 3) := by decide +kernel
theorem dX5_init_4 : decode cX5_init 4 = .ok (.aload_n 0, 1) := by decide +kernel
theorem dX5_init_5 : decode cX5_init 5 = .ok (.sipush 382, 3) := by decide +kernel
theorem dX5_init_8 : decode cX5_init 8 = .ok (.newarray .int, 2) := by decide +kernel
theorem dX5_init_10 : decode cX5_init 10 = .ok (.putfield 7, 3) := by decide +kernel
theorem dX5_init_13 : decode cX5_init 13 = .ok (.aload_n 0, 1) := by decide +kernel
theorem dX5_init_14 : decode cX5_init 14 = .ok (.sipush 764, 3) := by decide +kernel
theorem dX5_init_17 : decode cX5_init 17 = .ok (.newarray .int, 2) := by decide +kernel
theorem dX5_init_19 : decode cX5_init 19 = .ok (.putfield 13, 3) := by decide +kernel
theorem dX5_init_22 : decode cX5_init 22 = .ok (.aload_n 0, 1) := by decide +kernel
theorem dX5_init_23 : decode cX5_init 23 = .ok (.iconst 2, 1) := by decide +kernel
theorem dX5_init_24 : decode cX5_init 24 = .ok (.newarray .boolean, 2) := by decide +kernel
theorem dX5_init_26 : decode cX5_init 26 = .ok (.putfield 16, 3) := by decide +kernel
theorem dX5_init_29 : decode cX5_init 29 = .ok (.aload_n 0, 1) := by decide +kernel
theorem dX5_init_30 : decode cX5_init 30 = .ok (.iconst 3, 1) := by decide +kernel
theorem dX5_init_31 : decode cX5_init 31 = .ok (.newarray .int, 2) := by decide +kernel
theorem dX5_init_33 : decode cX5_init 33 = .ok (.putfield 20, 3) := by decide +kernel
theorem dX5_init_36 : decode cX5_init 36 = .ok (.aload_n 0, 1) := by decide +kernel
theorem dX5_init_37 : decode cX5_init 37 = .ok (.lconst 1, 1) := by decide +kernel
theorem dX5_init_38 : decode cX5_init 38 = .ok (.putfield 23, 3) := by decide +kernel
theorem dX5_init_41 : decode cX5_init 41 = .ok (.aload_n 0, 1) := by decide +kernel
theorem dX5_init_42 : decode cX5_init 42 = .ok (.bipush 28, 2) := by decide +kernel
theorem dX5_init_44 : decode cX5_init 44 = .ok (.newarray .int, 2) := by decide +kernel
theorem dX5_init_46 : decode cX5_init 46 = .ok (.putfield 27, 3) := by decide +kernel
theorem dX5_init_49 : decode cX5_init 49 = .ok (.aload_n 0, 1) := by decide +kernel
theorem dX5_init_50 : decode cX5_init 50 = .ok (.bipush 7, 2) := by decide +kernel
theorem dX5_init_52 : decode cX5_init 52 = .ok (.newarray .int, 2) := by decide +kernel
theorem dX5_init_54 : decode cX5_init 54 = .ok (.putfield 30, 3) := by decide +kernel
theorem dX5_init_57 : decode cX5_init 57 = .ok (.aload_n 0, 1) := by decide +kernel
theorem dX5_init_58 : decode cX5_init 58 = .ok (.bipush 14, 2) := by decide +kernel
theorem dX5_init_60 : decode cX5_init 60 = .ok (.newarray .int, 2) := by decide +kernel
theorem dX5_init_62 : decode cX5_init 62 = .ok (.putfield 33, 3) := by decide +kernel
theorem dX5_init_65 : decode cX5_init 65 = .ok (.aload_n 0, 1) := by decide +kernel
theorem dX5_init_66 : decode cX5_init 66 = .ok (.bipush 14, 2) := by decide +kernel
theorem dX5_init_68 : decode cX5_init 68 = .ok (.newarray .int, 2) := by decide +kernel
theorem dX5_init_70 : decode cX5_init 70 = .ok (.putfield 36, 3) := by decide +kernel
theorem dX5_init_73 : decode cX5_init 73 = .ok (.aload_n 0, 1) := by decide +kernel
theorem dX5_init_74 : decode cX5_init 74 = .ok (.bipush 6, 2) := by decide +kernel
theorem dX5_init_76 : decode cX5_init 76 = .ok (.newarray .boolean, 2) := by decide +kernel
theorem dX5_init_78 : decode cX5_init 78 = .ok (.putfield 39, 3) := by decide +kernel
theorem dX5_init_81 : decode cX5_init 81 = .ok (.aload_n 0, 1) := by decide +kernel
theorem dX5_init_82 : decode cX5_init 82 = .ok (.sipush 250, 3) := by decide +kernel
theorem dX5_init_85 : decode cX5_init 85 = .ok (.newarray .int, 2) := by decide +kernel
theorem dX5_init_87 : decode cX5_init 87 = .ok (.putfield 42, 3) := by decide +kernel
theorem dX5_init_90 : decode cX5_init 90 = .ok (.aload_n 0, 1) := by decide +kernel
theorem dX5_init_91 : decode cX5_init 91 = .ok (.bipush 95, 2) := by decide +kernel
theorem dX5_init_93 : decode cX5_init 93 = .ok (.newarray .int, 2) := by decide +kernel
theorem dX5_init_95 : decode cX5_init 95 = .ok (.putfield 45, 3) := by decide +kernel
theorem dX5_init_98 : decode cX5_init 98 = .ok (.aload_n 0, 1) := by decide +kernel
theorem dX5_init_99 : decode cX5_init 99 = .ok (.bipush 6, 2) := by decide +kernel
theorem dX5_init_101 : decode cX5_init 101 = .ok (.newarray .int, 2) := by decide +kernel
theorem dX5_init_103 : decode cX5_init 103 = .ok (.putfield 48, 3) := by decide +kernel
theorem dX5_init_106 : decode cX5_init 106 = .ok (.return_, 1) := by decide +kernel
theorem dX5_in_0 : decode cX5_in 0 = .ok (.lload_n 0, 1) := by decide +kernel
theorem dX5_in_1 : decode cX5_in 1 = .ok (.lload_n 2, 1) := by decide +kernel
theorem dX5_in_2 : decode cX5_in 2 = .ok (.lcmp, 1) := by decide +kernel
theorem dX5_in_3 : decode cX5_in 3 = .ok (.ifCond .lt 14, 3) := by decide +kernel
theorem dX5_in_6 : decode cX5_in 6 = .ok (.lload_n 0, 1) := by decide +kernel
theorem dX5_in_7 : decode cX5_in 7 = .ok (.lload 4, 2) := by decide +kernel
theorem dX5_in_9 : decode cX5_in 9 = .ok (.lcmp, 1) := by decide +kernel
theorem dX5_in_10 : decode cX5_in 10 = .ok (.ifCond .gt 7, 3) := by decide +kernel
theorem dX5_in_13 : decode cX5_in 13 = .ok (.iconst 1, 1) := by decide +kernel
theorem dX5_in_14 : decode cX5_in 14 = .ok (.goto 4, 3) := by decide +kernel
theorem dX5_in_17 : decode cX5_in 17 = .ok (.iconst 0, 1) := by decide +kernel
theorem dX5_in_18 : decode cX5_in 18 = .ok (.ireturn, 1) := by decide +kernel
theorem dX5_bad_0 : decode cX5_bad 0 = .ok (.aload_n 0, 1) := by decide +kernel
theorem dX5_bad_1 : decode cX5_bad 1 = .ok (.getfield 20, 3) := by decide +kernel
theorem dX5_bad_4 : decode cX5_bad 4 = .ok (.iconst 0, 1) := by decide +kernel
theorem dX5_bad_5 : decode cX5_bad 5 = .ok (.dup2, 1) := by decide +kernel
theorem dX5_bad_6 : decode cX5_bad 6 = .ok (.iaload, 1) := by decide +kernel
theorem dX5_bad_7 : decode cX5_bad 7 = .ok (.iconst 1, 1) := by decide +kernel
theorem dX5_bad_8 : decode cX5_bad 8 = .ok (.iadd, 1) := by decide +kernel
theorem dX5_bad_9 : decode cX5_bad 9 = .ok (.iastore, 1) := by decide +kernel
theorem dX5_bad_10 : decode cX5_bad 10 = .ok (.iload_n 1, 1) := by decide +kernel
theorem dX5_bad_11 : decode cX5_bad 11 = .ok (.ireturn, 1) := by decide +kernel
theorem dX5_no_0 : decode cX5_no 0 = .ok (.aload_n 0, 1) := by decide +kernel
theorem dX5_no_1 : decode cX5_no 1 = .ok (.getfield 20, 3) := by decide +kernel
theorem dX5_no_4 : decode cX5_no 4 = .ok (.iconst 1, 1) := by decide +kernel
theorem dX5_no_5 : decode cX5_no 5 = .ok (.dup2, 1) := by decide +kernel
theorem dX5_no_6 : decode cX5_no 6 = .ok (.iaload, 1) := by decide +kernel
theorem dX5_no_7 : decode cX5_no 7 = .ok (.iconst 1, 1) := by decide +kernel
theorem dX5_no_8 : decode cX5_no 8 = .ok (.iadd, 1) := by decide +kernel
theorem dX5_no_9 : decode cX5_no 9 = .ok (.iastore, 1) := by decide +kernel
theorem dX5_no_10 : decode cX5_no 10 = .ok (.iload_n 1, 1) := by decide +kernel
theorem dX5_no_11 : decode cX5_no 11 = .ok (.ireturn, 1) := by decide +kernel
theorem dX5_full_0 : decode cX5_full 0 = .ok (.aload_n 0, 1) := by decide +kernel
theorem dX5_full_1 : decode cX5_full 1 = .ok (.getfield 20, 3) := by decide +kernel
theorem dX5_full_4 : decode cX5_full 4 = .ok (.iconst 2, 1) := by decide +kernel
theorem dX5_full_5 : decode cX5_full 5 = .ok (.dup2, 1) := by decide +kernel
theorem dX5_full_6 : decode cX5_full 6 = .ok (.iaload, 1) := by decide +kernel
theorem dX5_full_7 : decode cX5_full 7 = .ok (.iconst 1, 1) := by decide +kernel
theorem dX5_full_8 : decode cX5_full 8 = .ok (.iadd, 1) := by decide +kernel
theorem dX5_full_9 : decode cX5_full 9 = .ok (.iastore, 1) := by decide +kernel
theorem dX5_full_10 : decode cX5_full 10 = .ok (.bipush (-4), 2) := by decide +kernel
theorem dX5_full_12 : decode cX5_full 12 = .ok (.ireturn, 1) := by decide +kernel
theorem dX5_tell_0 : decode cX5_tell 0 = .ok (.lload_n 1, 1) := by decide +kernel
theorem dX5_tell_1 : decode cX5_tell 1 = .ok (.lconst 0, 1) := by decide +kernel
theorem dX5_tell_2 : decode cX5_tell 2 = .ok (.lcmp, 1) := by decide +kernel
theorem dX5_tell_3 : decode cX5_tell 3 = .ok (.ifCond .ge 8, 3) := by decide +kernel
theorem dX5_tell_6 : decode cX5_tell 6 = .ok (.lload_n 1, 1) := by decide +kernel
theorem dX5_tell_7 : decode cX5_tell 7 = .ok (.lneg, 1) := by decide +kernel
theorem dX5_tell_8 : decode cX5_tell 8 = .ok (.goto 4, 3) := by decide +kernel
theorem dX5_tell_11 : decode cX5_tell 11 = .ok (.lload_n 1, 1) := by decide +kernel
theorem dX5_tell_12 : decode cX5_tell 12 = .ok (.lstore 5, 2) := by decide +kernel
theorem dX5_tell_14 : decode cX5_tell 14 = .ok (.lload_n 3, 1) := by decide +kernel
theorem dX5_tell_15 : decode cX5_tell 15 = .ok (.lstore 7, 2) := by decide +kernel
theorem dX5_tell_17 : decode cX5_tell 17 = .ok (.lload 7, 2) := by decide +kernel
theorem dX5_tell_19 : decode cX5_tell 19 = .ok (.lconst 0, 1) := by decide +kernel
theorem dX5_tell_20 : decode cX5_tell 20 = .ok (.lcmp, 1) := by decide +kernel
theorem dX5_tell_21 : decode cX5_tell 21 = .ok (.ifCond .eq 21, 3) := by decide +kernel
theorem dX5_tell_24 : decode cX5_tell 24 = .ok (.lload 5, 2) := by decide +kernel
theorem dX5_tell_26 : decode cX5_tell 26 = .ok (.lload 7, 2) := by decide +kernel
theorem dX5_tell_28 : decode cX5_tell 28 = .ok (.lrem, 1) := by decide +kernel
theorem dX5_tell_29 : decode cX5_tell 29 = .ok (.lstore 9, 2) := by decide +kernel
theorem dX5_tell_31 : decode cX5_tell 31 = .ok (.lload 7, 2) := by decide +kernel
theorem dX5_tell_33 : decode cX5_tell 33 = .ok (.lstore 5, 2) := by decide +kernel
theorem dX5_tell_35 : decode cX5_tell 35 = .ok (.lload 9, 2) := by decide +kernel
theorem dX5_tell_37 : decode cX5_tell 37 = .ok (.lstore 7, 2) := by decide +kernel
theorem dX5_tell_39 : decode cX5_tell 39 = .ok (.goto (-22), 3) := by decide +kernel
theorem dX5_tell_42 : decode cX5_tell 42 = .ok (.aload_n 0, 1) := by decide +kernel
theorem dX5_tell_43 : decode cX5_tell 43 = .ok (.lload_n 1, 1) := by decide +kernel
theorem dX5_tell_44 : decode cX5_tell 44 = .ok (.lload 5, 2) := by decide +kernel
theorem dX5_tell_46 : decode cX5_tell 46 = .ok (.ldiv, 1) := by decide +kernel
theorem dX5_tell_47 : decode cX5_tell 47 = .ok (.putfield 51, 3) := by decide +kernel
theorem dX5_tell_50 : decode cX5_tell 50 = .ok (.aload_n 0, 1) := by decide +kernel
theorem dX5_tell_51 : decode cX5_tell 51 = .ok (.lload_n 3, 1) := by decide +kernel
theorem dX5_tell_52 : decode cX5_tell 52 = .ok (.lload 5, 2) := by decide +kernel
theorem dX5_tell_54 : decode cX5_tell 54 = .ok (.ldiv, 1) := by decide +kernel
theorem dX5_tell_55 : decode cX5_tell 55 = .ok (.putfield 23, 3) := by decide +kernel
theorem dX5_tell_58 : decode cX5_tell 58 = .ok (.iconst 1, 1) := by decide +kernel
theorem dX5_tell_59 : decode cX5_tell 59 = .ok (.ireturn, 1) := by decide +kernel
theorem dX5_roofs_0 : decode cX5_roofs 0 = .ok (.aload_n 0, 1) := by decide +kernel
theorem dX5_roofs_1 : decode cX5_roofs 1 = .ok (.getfield 7, 3) := by decide +kernel
theorem dX5_roofs_4 : decode cX5_roofs 4 = .ok (.bipush 93, 2) := by decide +kernel
theorem dX5_roofs_6 : decode cX5_roofs 6 = .ok (.iaload, 1) := by decide +kernel
theorem dX5_roofs_7 : decode cX5_roofs 7 = .ok (.ireturn, 1) := by decide +kernel
theorem dX5_storms_0 : decode cX5_storms 0 = .ok (.aload_n 0, 1) := by decide +kernel
theorem dX5_storms_1 : decode cX5_storms 1 = .ok (.getfield 7, 3) := by decide +kernel
theorem dX5_storms_4 : decode cX5_storms 4 = .ok (.bipush 94, 2) := by decide +kernel
theorem dX5_storms_6 : decode cX5_storms 6 = .ok (.iaload, 1) := by decide +kernel
theorem dX5_storms_7 : decode cX5_storms 7 = .ok (.ireturn, 1) := by decide +kernel
theorem dX5_isRoof_0 : decode cX5_isRoof 0 = .ok (.iload_n 1, 1) := by decide +kernel
theorem dX5_isRoof_1 : decode cX5_isRoof 1 = .ok (.i2l, 1) := by decide +kernel
theorem dX5_isRoof_2 : decode cX5_isRoof 2 = .ok (.lconst 0, 1) := by decide +kernel
theorem dX5_isRoof_3 : decode cX5_isRoof 3 = .ok (.aload_n 0, 1) := by decide +kernel
theorem dX5_isRoof_4 : decode cX5_isRoof 4 = .ok (.invokevirtual 54, 3) := by decide +kernel
theorem dX5_isRoof_7 : decode cX5_isRoof 7 = .ok (.iconst 1, 1) := by decide +kernel
theorem dX5_isRoof_8 : decode cX5_isRoof 8 = .ok (.isub, 1) := by decide +kernel
theorem dX5_isRoof_9 : decode cX5_isRoof 9 = .ok (.i2l, 1) := by decide +kernel
theorem dX5_isRoof_10 : decode cX5_isRoof 10 = .ok (.invokestatic 58, 3) := by decide +kernel
theorem dX5_isRoof_13 : decode cX5_isRoof 13 = .ok (.ireturn, 1) := by decide +kernel
theorem dX5_isStorm_0 : decode cX5_isStorm 0 = .ok (.iload_n 1, 1) := by decide +kernel
theorem dX5_isStorm_1 : decode cX5_isStorm 1 = .ok (.i2l, 1) := by decide +kernel
theorem dX5_isStorm_2 : decode cX5_isStorm 2 = .ok (.lconst 0, 1) := by decide +kernel
theorem dX5_isStorm_3 : decode cX5_isStorm 3 = .ok (.aload_n 0, 1) := by decide +kernel
theorem dX5_isStorm_4 : decode cX5_isStorm 4 = .ok (.invokevirtual 62, 3) := by decide +kernel
theorem dX5_isStorm_7 : decode cX5_isStorm 7 = .ok (.iconst 1, 1) := by decide +kernel
theorem dX5_isStorm_8 : decode cX5_isStorm 8 = .ok (.isub, 1) := by decide +kernel
theorem dX5_isStorm_9 : decode cX5_isStorm 9 = .ok (.i2l, 1) := by decide +kernel
theorem dX5_isStorm_10 : decode cX5_isStorm 10 = .ok (.invokestatic 58, 3) := by decide +kernel
theorem dX5_isStorm_13 : decode cX5_isStorm 13 = .ok (.ireturn, 1) := by decide +kernel
theorem dX5_of_0 : decode cX5_of 0 = .ok (.aload_n 0, 1) := by decide +kernel
theorem dX5_of_1 : decode cX5_of 1 = .ok (.getfield 7, 3) := by decide +kernel
theorem dX5_of_4 : decode cX5_of 4 = .ok (.bipush 56, 2) := by decide +kernel
theorem dX5_of_6 : decode cX5_of 6 = .ok (.iconst 5, 1) := by decide +kernel
theorem dX5_of_7 : decode cX5_of 7 = .ok (.iload_n 1, 1) := by decide +kernel
theorem dX5_of_8 : decode cX5_of 8 = .ok (.imul, 1) := by decide +kernel
theorem dX5_of_9 : decode cX5_of 9 = .ok (.iadd, 1) := by decide +kernel
theorem dX5_of_10 : decode cX5_of 10 = .ok (.iload_n 2, 1) := by decide +kernel
theorem dX5_of_11 : decode cX5_of 11 = .ok (.iadd, 1) := by decide +kernel
theorem dX5_of_12 : decode cX5_of 12 = .ok (.iaload, 1) := by decide +kernel
theorem dX5_of_13 : decode cX5_of 13 = .ok (.ireturn, 1) := by decide +kernel
theorem dX5_isRoofTold_0 : decode cX5_isRoofTold 0 = .ok (.iload_n 0, 1) := by decide +kernel
theorem dX5_isRoofTold_1 : decode cX5_isRoofTold 1 = .ok (.i2l, 1) := by decide +kernel
theorem dX5_isRoofTold_2 : decode cX5_isRoofTold 2 = .ok (.lconst 0, 1) := by decide +kernel
theorem dX5_isRoofTold_3 : decode cX5_isRoofTold 3 = .ok (.ldc2_w 65, 3) := by decide +kernel
theorem dX5_isRoofTold_6 : decode cX5_isRoofTold 6 = .ok (.invokestatic 58, 3) := by decide +kernel
theorem dX5_isRoofTold_9 : decode cX5_isRoofTold 9 = .ok (.ifCond .eq 19, 3) := by decide +kernel
theorem dX5_isRoofTold_12 : decode cX5_isRoofTold 12 = .ok (.iload_n 1, 1) := by decide +kernel
theorem dX5_isRoofTold_13 : decode cX5_isRoofTold 13 = .ok (.i2l, 1) := by decide +kernel
theorem dX5_isRoofTold_14 : decode cX5_isRoofTold 14 = .ok (.lconst 0, 1) := by decide +kernel
theorem dX5_isRoofTold_15 : decode cX5_isRoofTold 15 = .ok (.ldc2_w 67, 3) := by decide +kernel
theorem dX5_isRoofTold_18 : decode cX5_isRoofTold 18 = .ok (.invokestatic 58, 3) := by decide +kernel
theorem dX5_isRoofTold_21 : decode cX5_isRoofTold 21 = .ok (.ifCond .eq 7, 3) := by decide +kernel
theorem dX5_isRoofTold_24 : decode cX5_isRoofTold 24 = .ok (.iconst 1, 1) := by decide +kernel
theorem dX5_isRoofTold_25 : decode cX5_isRoofTold 25 = .ok (.goto 4, 3) := by decide +kernel
theorem dX5_isRoofTold_28 : decode cX5_isRoofTold 28 = .ok (.iconst 0, 1) := by decide +kernel
theorem dX5_isRoofTold_29 : decode cX5_isRoofTold 29 = .ok (.istore 6, 2) := by decide +kernel
theorem dX5_isRoofTold_31 : decode cX5_isRoofTold 31 = .ok (.iload 6, 2) := by decide +kernel
theorem dX5_isRoofTold_33 : decode cX5_isRoofTold 33 = .ok (.ifCond .eq 57, 3) := by decide +kernel
theorem dX5_isRoofTold_36 : decode cX5_isRoofTold 36 = .ok (.iload_n 2, 1) := by decide +kernel
theorem dX5_isRoofTold_37 : decode cX5_isRoofTold 37 = .ok (.i2l, 1) := by decide +kernel
theorem dX5_isRoofTold_38 : decode cX5_isRoofTold 38 = .ok (.lconst 0, 1) := by decide +kernel
theorem dX5_isRoofTold_39 : decode cX5_isRoofTold 39 = .ok (.ldc2_w 67, 3) := by decide +kernel
theorem dX5_isRoofTold_42 : decode cX5_isRoofTold 42 = .ok (.invokestatic 58, 3) := by decide +kernel
theorem dX5_isRoofTold_45 : decode cX5_isRoofTold 45 = .ok (.ifCond .eq 45, 3) := by decide +kernel
theorem dX5_isRoofTold_48 : decode cX5_isRoofTold 48 = .ok (.iload_n 3, 1) := by decide +kernel
theorem dX5_isRoofTold_49 : decode cX5_isRoofTold 49 = .ok (.i2l, 1) := by decide +kernel
theorem dX5_isRoofTold_50 : decode cX5_isRoofTold 50 = .ok (.lconst 0, 1) := by decide +kernel
theorem dX5_isRoofTold_51 : decode cX5_isRoofTold 51 = .ok (.ldc2_w 67, 3) := by decide +kernel
theorem dX5_isRoofTold_54 : decode cX5_isRoofTold 54 = .ok (.invokestatic 58, 3) := by decide +kernel
theorem dX5_isRoofTold_57 : decode cX5_isRoofTold 57 = .ok (.ifCond .eq 33, 3) := by decide +kernel
theorem dX5_isRoofTold_60 : decode cX5_isRoofTold 60 = .ok (.iload 4, 2) := by decide +kernel
theorem dX5_isRoofTold_62 : decode cX5_isRoofTold 62 = .ok (.i2l, 1) := by decide +kernel
theorem dX5_isRoofTold_63 : decode cX5_isRoofTold 63 = .ok (.lconst 0, 1) := by decide +kernel
theorem dX5_isRoofTold_64 : decode cX5_isRoofTold 64 = .ok (.ldc2_w 67, 3) := by decide +kernel
theorem dX5_isRoofTold_67 : decode cX5_isRoofTold 67 = .ok (.invokestatic 58, 3) := by decide +kernel
theorem dX5_isRoofTold_70 : decode cX5_isRoofTold 70 = .ok (.ifCond .eq 20, 3) := by decide +kernel
theorem dX5_isRoofTold_73 : decode cX5_isRoofTold 73 = .ok (.iload 5, 2) := by decide +kernel
theorem dX5_isRoofTold_75 : decode cX5_isRoofTold 75 = .ok (.i2l, 1) := by decide +kernel
theorem dX5_isRoofTold_76 : decode cX5_isRoofTold 76 = .ok (.lconst 0, 1) := by decide +kernel
theorem dX5_isRoofTold_77 : decode cX5_isRoofTold 77 = .ok (.ldc2_w 67, 3) := by decide +kernel
theorem dX5_isRoofTold_80 : decode cX5_isRoofTold 80 = .ok (.invokestatic 58, 3) := by decide +kernel
theorem dX5_isRoofTold_83 : decode cX5_isRoofTold 83 = .ok (.ifCond .eq 7, 3) := by decide +kernel
theorem dX5_isRoofTold_86 : decode cX5_isRoofTold 86 = .ok (.iconst 1, 1) := by decide +kernel
theorem dX5_isRoofTold_87 : decode cX5_isRoofTold 87 = .ok (.goto 4, 3) := by decide +kernel
theorem dX5_isRoofTold_90 : decode cX5_isRoofTold 90 = .ok (.iconst 0, 1) := by decide +kernel
theorem dX5_isRoofTold_91 : decode cX5_isRoofTold 91 = .ok (.ireturn, 1) := by decide +kernel
theorem dX5_layRoof_0 : decode cX5_layRoof 0 = .ok (.iconst 0, 1) := by decide +kernel
theorem dX5_layRoof_1 : decode cX5_layRoof 1 = .ok (.bipush 8, 2) := by decide +kernel
theorem dX5_layRoof_3 : decode cX5_layRoof 3 = .ok (.iload_n 1, 1) := by decide +kernel
theorem dX5_layRoof_4 : decode cX5_layRoof 4 = .ok (.imul, 1) := by decide +kernel
theorem dX5_layRoof_5 : decode cX5_layRoof 5 = .ok (.iadd, 1) := by decide +kernel
theorem dX5_layRoof_6 : decode cX5_layRoof 6 = .ok (.istore 8, 2) := by decide +kernel
theorem dX5_layRoof_8 : decode cX5_layRoof 8 = .ok (.aload_n 0, 1) := by decide +kernel
theorem dX5_layRoof_9 : decode cX5_layRoof 9 = .ok (.iload 8, 2) := by decide +kernel
theorem dX5_layRoof_11 : decode cX5_layRoof 11 = .ok (.iconst 0, 1) := by decide +kernel
theorem dX5_layRoof_12 : decode cX5_layRoof 12 = .ok (.iadd, 1) := by decide +kernel
theorem dX5_layRoof_13 : decode cX5_layRoof 13 = .ok (.iload_n 2, 1) := by decide +kernel
theorem dX5_layRoof_14 : decode cX5_layRoof 14 = .ok (.iastore, 1) := by decide +kernel
theorem dX5_layRoof_15 : decode cX5_layRoof 15 = .ok (.aload_n 0, 1) := by decide +kernel
theorem dX5_layRoof_16 : decode cX5_layRoof 16 = .ok (.iload 8, 2) := by decide +kernel
theorem dX5_layRoof_18 : decode cX5_layRoof 18 = .ok (.iconst 1, 1) := by decide +kernel
theorem dX5_layRoof_19 : decode cX5_layRoof 19 = .ok (.iadd, 1) := by decide +kernel
theorem dX5_layRoof_20 : decode cX5_layRoof 20 = .ok (.iload_n 3, 1) := by decide +kernel
theorem dX5_layRoof_21 : decode cX5_layRoof 21 = .ok (.iastore, 1) := by decide +kernel
theorem dX5_layRoof_22 : decode cX5_layRoof 22 = .ok (.aload_n 0, 1) := by decide +kernel
theorem dX5_layRoof_23 : decode cX5_layRoof 23 = .ok (.iload 8, 2) := by decide +kernel
theorem dX5_layRoof_25 : decode cX5_layRoof 25 = .ok (.iconst 2, 1) := by decide +kernel
theorem dX5_layRoof_26 : decode cX5_layRoof 26 = .ok (.iadd, 1) := by decide +kernel
theorem dX5_layRoof_27 : decode cX5_layRoof 27 = .ok (.iload 4, 2) := by decide +kernel
theorem dX5_layRoof_29 : decode cX5_layRoof 29 = .ok (.iastore, 1) := by decide +kernel
theorem dX5_layRoof_30 : decode cX5_layRoof 30 = .ok (.aload_n 0, 1) := by decide +kernel
theorem dX5_layRoof_31 : decode cX5_layRoof 31 = .ok (.iload 8, 2) := by decide +kernel
theorem dX5_layRoof_33 : decode cX5_layRoof 33 = .ok (.iconst 2, 1) := by decide +kernel
theorem dX5_layRoof_34 : decode cX5_layRoof 34 = .ok (.iadd, 1) := by decide +kernel
theorem dX5_layRoof_35 : decode cX5_layRoof 35 = .ok (.iconst 1, 1) := by decide +kernel
theorem dX5_layRoof_36 : decode cX5_layRoof 36 = .ok (.iadd, 1) := by decide +kernel
theorem dX5_layRoof_37 : decode cX5_layRoof 37 = .ok (.iload 5, 2) := by decide +kernel
theorem dX5_layRoof_39 : decode cX5_layRoof 39 = .ok (.iastore, 1) := by decide +kernel
theorem dX5_layRoof_40 : decode cX5_layRoof 40 = .ok (.aload_n 0, 1) := by decide +kernel
theorem dX5_layRoof_41 : decode cX5_layRoof 41 = .ok (.iload 8, 2) := by decide +kernel
theorem dX5_layRoof_43 : decode cX5_layRoof 43 = .ok (.iconst 2, 1) := by decide +kernel
theorem dX5_layRoof_44 : decode cX5_layRoof 44 = .ok (.iadd, 1) := by decide +kernel
theorem dX5_layRoof_45 : decode cX5_layRoof 45 = .ok (.iconst 2, 1) := by decide +kernel
theorem dX5_layRoof_46 : decode cX5_layRoof 46 = .ok (.iadd, 1) := by decide +kernel
theorem dX5_layRoof_47 : decode cX5_layRoof 47 = .ok (.iload 6, 2) := by decide +kernel
theorem dX5_layRoof_49 : decode cX5_layRoof 49 = .ok (.iastore, 1) := by decide +kernel
theorem dX5_layRoof_50 : decode cX5_layRoof 50 = .ok (.aload_n 0, 1) := by decide +kernel
theorem dX5_layRoof_51 : decode cX5_layRoof 51 = .ok (.iload 8, 2) := by decide +kernel
theorem dX5_layRoof_53 : decode cX5_layRoof 53 = .ok (.iconst 2, 1) := by decide +kernel
theorem dX5_layRoof_54 : decode cX5_layRoof 54 = .ok (.iadd, 1) := by decide +kernel
theorem dX5_layRoof_55 : decode cX5_layRoof 55 = .ok (.iconst 3, 1) := by decide +kernel
theorem dX5_layRoof_56 : decode cX5_layRoof 56 = .ok (.iadd, 1) := by decide +kernel
theorem dX5_layRoof_57 : decode cX5_layRoof 57 = .ok (.iload 7, 2) := by decide +kernel
theorem dX5_layRoof_59 : decode cX5_layRoof 59 = .ok (.iastore, 1) := by decide +kernel
theorem dX5_layRoof_60 : decode cX5_layRoof 60 = .ok (.aload_n 0, 1) := by decide +kernel
theorem dX5_layRoof_61 : decode cX5_layRoof 61 = .ok (.iload 8, 2) := by decide +kernel
theorem dX5_layRoof_63 : decode cX5_layRoof 63 = .ok (.bipush 6, 2) := by decide +kernel
theorem dX5_layRoof_65 : decode cX5_layRoof 65 = .ok (.iadd, 1) := by decide +kernel
theorem dX5_layRoof_66 : decode cX5_layRoof 66 = .ok (.iconst (-1), 1) := by decide +kernel
theorem dX5_layRoof_67 : decode cX5_layRoof 67 = .ok (.iastore, 1) := by decide +kernel
theorem dX5_layRoof_68 : decode cX5_layRoof 68 = .ok (.aload_n 0, 1) := by decide +kernel
theorem dX5_layRoof_69 : decode cX5_layRoof 69 = .ok (.iload 8, 2) := by decide +kernel
theorem dX5_layRoof_71 : decode cX5_layRoof 71 = .ok (.bipush 6, 2) := by decide +kernel
theorem dX5_layRoof_73 : decode cX5_layRoof 73 = .ok (.iadd, 1) := by decide +kernel
theorem dX5_layRoof_74 : decode cX5_layRoof 74 = .ok (.iconst 1, 1) := by decide +kernel
theorem dX5_layRoof_75 : decode cX5_layRoof 75 = .ok (.iadd, 1) := by decide +kernel
theorem dX5_layRoof_76 : decode cX5_layRoof 76 = .ok (.iconst (-1), 1) := by decide +kernel
theorem dX5_layRoof_77 : decode cX5_layRoof 77 = .ok (.iastore, 1) := by decide +kernel
theorem dX5_layRoof_78 : decode cX5_layRoof 78 = .ok (.return_, 1) := by decide +kernel
theorem dX5_roof_0 : decode cX5_roof 0 = .ok (.iload_n 1, 1) := by decide +kernel
theorem dX5_roof_1 : decode cX5_roof 1 = .ok (.iload_n 2, 1) := by decide +kernel
theorem dX5_roof_2 : decode cX5_roof 2 = .ok (.iload_n 3, 1) := by decide +kernel
theorem dX5_roof_3 : decode cX5_roof 3 = .ok (.iload 4, 2) := by decide +kernel
theorem dX5_roof_5 : decode cX5_roof 5 = .ok (.iload 5, 2) := by decide +kernel
theorem dX5_roof_7 : decode cX5_roof 7 = .ok (.iload 6, 2) := by decide +kernel
theorem dX5_roof_9 : decode cX5_roof 9 = .ok (.invokestatic 69, 3) := by decide +kernel
theorem dX5_roof_12 : decode cX5_roof 12 = .ok (.ifCond .ne 10, 3) := by decide +kernel
theorem dX5_roof_15 : decode cX5_roof 15 = .ok (.aload_n 0, 1) := by decide +kernel
theorem dX5_roof_16 : decode cX5_roof 16 = .ok (.bipush (-2), 2) := by decide +kernel
theorem dX5_roof_18 : decode cX5_roof 18 = .ok (.invokevirtual 73, 3) := by decide +kernel
theorem dX5_roof_21 : decode cX5_roof 21 = .ok (.ireturn, 1) := by decide +kernel
theorem dX5_roof_22 : decode cX5_roof 22 = .ok (.aload_n 0, 1) := by decide +kernel
theorem dX5_roof_23 : decode cX5_roof 23 = .ok (.invokevirtual 54, 3) := by decide +kernel
theorem dX5_roof_26 : decode cX5_roof 26 = .ok (.istore 7, 2) := by decide +kernel
theorem dX5_roof_28 : decode cX5_roof 28 = .ok (.iload 7, 2) := by decide +kernel
theorem dX5_roof_30 : decode cX5_roof 30 = .ok (.bipush 7, 2) := by decide +kernel
theorem dX5_roof_32 : decode cX5_roof 32 = .ok (.if_icmp .ne 8, 3) := by decide +kernel
theorem dX5_roof_35 : decode cX5_roof 35 = .ok (.aload_n 0, 1) := by decide +kernel
theorem dX5_roof_36 : decode cX5_roof 36 = .ok (.invokevirtual 77, 3) := by decide +kernel
theorem dX5_roof_39 : decode cX5_roof 39 = .ok (.ireturn, 1) := by decide +kernel
theorem dX5_roof_40 : decode cX5_roof 40 = .ok (.aload_n 0, 1) := by decide +kernel
theorem dX5_roof_41 : decode cX5_roof 41 = .ok (.getfield 7, 3) := by decide +kernel
theorem dX5_roof_44 : decode cX5_roof 44 = .ok (.iload 7, 2) := by decide +kernel
theorem dX5_roof_46 : decode cX5_roof 46 = .ok (.iload_n 1, 1) := by decide +kernel
theorem dX5_roof_47 : decode cX5_roof 47 = .ok (.iload_n 2, 1) := by decide +kernel
theorem dX5_roof_48 : decode cX5_roof 48 = .ok (.iload_n 3, 1) := by decide +kernel
theorem dX5_roof_49 : decode cX5_roof 49 = .ok (.iload 4, 2) := by decide +kernel
theorem dX5_roof_51 : decode cX5_roof 51 = .ok (.iload 5, 2) := by decide +kernel
theorem dX5_roof_53 : decode cX5_roof 53 = .ok (.iload 6, 2) := by decide +kernel
theorem dX5_roof_55 : decode cX5_roof 55 = .ok (.invokestatic 80, 3) := by decide +kernel
theorem dX5_roof_58 : decode cX5_roof 58 = .ok (.aload_n 0, 1) := by decide +kernel
theorem dX5_roof_59 : decode cX5_roof 59 = .ok (.getfield 7, 3) := by decide +kernel
theorem dX5_roof_62 : decode cX5_roof 62 = .ok (.bipush 93, 2) := by decide +kernel
theorem dX5_roof_64 : decode cX5_roof 64 = .ok (.dup2, 1) := by decide +kernel
theorem dX5_roof_65 : decode cX5_roof 65 = .ok (.iaload, 1) := by decide +kernel
theorem dX5_roof_66 : decode cX5_roof 66 = .ok (.iconst 1, 1) := by decide +kernel
theorem dX5_roof_67 : decode cX5_roof 67 = .ok (.iadd, 1) := by decide +kernel
theorem dX5_roof_68 : decode cX5_roof 68 = .ok (.iastore, 1) := by decide +kernel
theorem dX5_roof_69 : decode cX5_roof 69 = .ok (.iload 7, 2) := by decide +kernel
theorem dX5_roof_71 : decode cX5_roof 71 = .ok (.ireturn, 1) := by decide +kernel
theorem dX5_layStorm_0 : decode cX5_layStorm 0 = .ok (.bipush 56, 2) := by decide +kernel
theorem dX5_layStorm_2 : decode cX5_layStorm 2 = .ok (.iconst 5, 1) := by decide +kernel
theorem dX5_layStorm_3 : decode cX5_layStorm 3 = .ok (.iload_n 1, 1) := by decide +kernel
theorem dX5_layStorm_4 : decode cX5_layStorm 4 = .ok (.imul, 1) := by decide +kernel
theorem dX5_layStorm_5 : decode cX5_layStorm 5 = .ok (.iadd, 1) := by decide +kernel
theorem dX5_layStorm_6 : decode cX5_layStorm 6 = .ok (.istore 7, 2) := by decide +kernel
theorem dX5_layStorm_8 : decode cX5_layStorm 8 = .ok (.aload_n 0, 1) := by decide +kernel
theorem dX5_layStorm_9 : decode cX5_layStorm 9 = .ok (.iload 7, 2) := by decide +kernel
theorem dX5_layStorm_11 : decode cX5_layStorm 11 = .ok (.iconst 0, 1) := by decide +kernel
theorem dX5_layStorm_12 : decode cX5_layStorm 12 = .ok (.iadd, 1) := by decide +kernel
theorem dX5_layStorm_13 : decode cX5_layStorm 13 = .ok (.iload_n 2, 1) := by decide +kernel
theorem dX5_layStorm_14 : decode cX5_layStorm 14 = .ok (.iastore, 1) := by decide +kernel
theorem dX5_layStorm_15 : decode cX5_layStorm 15 = .ok (.aload_n 0, 1) := by decide +kernel
theorem dX5_layStorm_16 : decode cX5_layStorm 16 = .ok (.iload 7, 2) := by decide +kernel
theorem dX5_layStorm_18 : decode cX5_layStorm 18 = .ok (.iconst 1, 1) := by decide +kernel
theorem dX5_layStorm_19 : decode cX5_layStorm 19 = .ok (.iadd, 1) := by decide +kernel
theorem dX5_layStorm_20 : decode cX5_layStorm 20 = .ok (.iload_n 3, 1) := by decide +kernel
theorem dX5_layStorm_21 : decode cX5_layStorm 21 = .ok (.iastore, 1) := by decide +kernel
theorem dX5_layStorm_22 : decode cX5_layStorm 22 = .ok (.aload_n 0, 1) := by decide +kernel
theorem dX5_layStorm_23 : decode cX5_layStorm 23 = .ok (.iload 7, 2) := by decide +kernel
theorem dX5_layStorm_25 : decode cX5_layStorm 25 = .ok (.iconst 2, 1) := by decide +kernel
theorem dX5_layStorm_26 : decode cX5_layStorm 26 = .ok (.iadd, 1) := by decide +kernel
theorem dX5_layStorm_27 : decode cX5_layStorm 27 = .ok (.iload 4, 2) := by decide +kernel
theorem dX5_layStorm_29 : decode cX5_layStorm 29 = .ok (.iastore, 1) := by decide +kernel
theorem dX5_layStorm_30 : decode cX5_layStorm 30 = .ok (.aload_n 0, 1) := by decide +kernel
theorem dX5_layStorm_31 : decode cX5_layStorm 31 = .ok (.iload 7, 2) := by decide +kernel
theorem dX5_layStorm_33 : decode cX5_layStorm 33 = .ok (.iconst 3, 1) := by decide +kernel
theorem dX5_layStorm_34 : decode cX5_layStorm 34 = .ok (.iadd, 1) := by decide +kernel
theorem dX5_layStorm_35 : decode cX5_layStorm 35 = .ok (.iload 5, 2) := by decide +kernel
theorem dX5_layStorm_37 : decode cX5_layStorm 37 = .ok (.iastore, 1) := by decide +kernel
theorem dX5_layStorm_38 : decode cX5_layStorm 38 = .ok (.aload_n 0, 1) := by decide +kernel
theorem dX5_layStorm_39 : decode cX5_layStorm 39 = .ok (.iload 7, 2) := by decide +kernel
theorem dX5_layStorm_41 : decode cX5_layStorm 41 = .ok (.iconst 4, 1) := by decide +kernel
theorem dX5_layStorm_42 : decode cX5_layStorm 42 = .ok (.iadd, 1) := by decide +kernel
theorem dX5_layStorm_43 : decode cX5_layStorm 43 = .ok (.iload 6, 2) := by decide +kernel
theorem dX5_layStorm_45 : decode cX5_layStorm 45 = .ok (.iastore, 1) := by decide +kernel
theorem dX5_layStorm_46 : decode cX5_layStorm 46 = .ok (.return_, 1) := by decide +kernel
theorem dX5_storm_0 : decode cX5_storm 0 = .ok (.iload_n 2, 1) := by decide +kernel
theorem dX5_storm_1 : decode cX5_storm 1 = .ok (.i2l, 1) := by decide +kernel
theorem dX5_storm_2 : decode cX5_storm 2 = .ok (.lconst 0, 1) := by decide +kernel
theorem dX5_storm_3 : decode cX5_storm 3 = .ok (.ldc2_w 84, 3) := by decide +kernel
theorem dX5_storm_6 : decode cX5_storm 6 = .ok (.invokestatic 58, 3) := by decide +kernel
theorem dX5_storm_9 : decode cX5_storm 9 = .ok (.ifCond .eq 50, 3) := by decide +kernel
theorem dX5_storm_12 : decode cX5_storm 12 = .ok (.iload_n 1, 1) := by decide +kernel
theorem dX5_storm_13 : decode cX5_storm 13 = .ok (.i2l, 1) := by decide +kernel
theorem dX5_storm_14 : decode cX5_storm 14 = .ok (.lconst 0, 1) := by decide +kernel
theorem dX5_storm_15 : decode cX5_storm 15 = .ok (.iload_n 2, 1) := by decide +kernel
theorem dX5_storm_16 : decode cX5_storm 16 = .ok (.i2l, 1) := by decide +kernel
theorem dX5_storm_17 : decode cX5_storm 17 = .ok (.invokestatic 58, 3) := by decide +kernel
theorem dX5_storm_20 : decode cX5_storm 20 = .ok (.ifCond .eq 39, 3) := by decide +kernel
theorem dX5_storm_23 : decode cX5_storm 23 = .ok (.iload_n 3, 1) := by decide +kernel
theorem dX5_storm_24 : decode cX5_storm 24 = .ok (.i2l, 1) := by decide +kernel
theorem dX5_storm_25 : decode cX5_storm 25 = .ok (.lconst 0, 1) := by decide +kernel
theorem dX5_storm_26 : decode cX5_storm 26 = .ok (.lconst 1, 1) := by decide +kernel
theorem dX5_storm_27 : decode cX5_storm 27 = .ok (.invokestatic 58, 3) := by decide +kernel
theorem dX5_storm_30 : decode cX5_storm 30 = .ok (.ifCond .eq 29, 3) := by decide +kernel
theorem dX5_storm_33 : decode cX5_storm 33 = .ok (.iload 4, 2) := by decide +kernel
theorem dX5_storm_35 : decode cX5_storm 35 = .ok (.i2l, 1) := by decide +kernel
theorem dX5_storm_36 : decode cX5_storm 36 = .ok (.lconst 1, 1) := by decide +kernel
theorem dX5_storm_37 : decode cX5_storm 37 = .ok (.ldc2_w 67, 3) := by decide +kernel
theorem dX5_storm_40 : decode cX5_storm 40 = .ok (.invokestatic 58, 3) := by decide +kernel
theorem dX5_storm_43 : decode cX5_storm 43 = .ok (.ifCond .eq 16, 3) := by decide +kernel
theorem dX5_storm_46 : decode cX5_storm 46 = .ok (.iload 5, 2) := by decide +kernel
theorem dX5_storm_48 : decode cX5_storm 48 = .ok (.i2l, 1) := by decide +kernel
theorem dX5_storm_49 : decode cX5_storm 49 = .ok (.lconst 1, 1) := by decide +kernel
theorem dX5_storm_50 : decode cX5_storm 50 = .ok (.ldc2_w 67, 3) := by decide +kernel
theorem dX5_storm_53 : decode cX5_storm 53 = .ok (.invokestatic 58, 3) := by decide +kernel
theorem dX5_storm_56 : decode cX5_storm 56 = .ok (.ifCond .ne 10, 3) := by decide +kernel
theorem dX5_storm_59 : decode cX5_storm 59 = .ok (.aload_n 0, 1) := by decide +kernel
theorem dX5_storm_60 : decode cX5_storm 60 = .ok (.bipush (-2), 2) := by decide +kernel
theorem dX5_storm_62 : decode cX5_storm 62 = .ok (.invokevirtual 73, 3) := by decide +kernel
theorem dX5_storm_65 : decode cX5_storm 65 = .ok (.ireturn, 1) := by decide +kernel
theorem dX5_storm_66 : decode cX5_storm 66 = .ok (.aload_n 0, 1) := by decide +kernel
theorem dX5_storm_67 : decode cX5_storm 67 = .ok (.invokevirtual 62, 3) := by decide +kernel
theorem dX5_storm_70 : decode cX5_storm 70 = .ok (.istore 6, 2) := by decide +kernel
theorem dX5_storm_72 : decode cX5_storm 72 = .ok (.iload 6, 2) := by decide +kernel
theorem dX5_storm_74 : decode cX5_storm 74 = .ok (.bipush 6, 2) := by decide +kernel
theorem dX5_storm_76 : decode cX5_storm 76 = .ok (.if_icmp .ne 8, 3) := by decide +kernel
theorem dX5_storm_79 : decode cX5_storm 79 = .ok (.aload_n 0, 1) := by decide +kernel
theorem dX5_storm_80 : decode cX5_storm 80 = .ok (.invokevirtual 77, 3) := by decide +kernel
theorem dX5_storm_83 : decode cX5_storm 83 = .ok (.ireturn, 1) := by decide +kernel
theorem dX5_storm_84 : decode cX5_storm 84 = .ok (.aload_n 0, 1) := by decide +kernel
theorem dX5_storm_85 : decode cX5_storm 85 = .ok (.getfield 7, 3) := by decide +kernel
theorem dX5_storm_88 : decode cX5_storm 88 = .ok (.iload 6, 2) := by decide +kernel
theorem dX5_storm_90 : decode cX5_storm 90 = .ok (.iload_n 1, 1) := by decide +kernel
theorem dX5_storm_91 : decode cX5_storm 91 = .ok (.iload_n 2, 1) := by decide +kernel
theorem dX5_storm_92 : decode cX5_storm 92 = .ok (.iload_n 3, 1) := by decide +kernel
theorem dX5_storm_93 : decode cX5_storm 93 = .ok (.iload 4, 2) := by decide +kernel
theorem dX5_storm_95 : decode cX5_storm 95 = .ok (.iload 5, 2) := by decide +kernel
theorem dX5_storm_97 : decode cX5_storm 97 = .ok (.invokestatic 86, 3) := by decide +kernel
theorem dX5_storm_100 : decode cX5_storm 100 = .ok (.aload_n 0, 1) := by decide +kernel
theorem dX5_storm_101 : decode cX5_storm 101 = .ok (.getfield 7, 3) := by decide +kernel
theorem dX5_storm_104 : decode cX5_storm 104 = .ok (.bipush 94, 2) := by decide +kernel
theorem dX5_storm_106 : decode cX5_storm 106 = .ok (.dup2, 1) := by decide +kernel
theorem dX5_storm_107 : decode cX5_storm 107 = .ok (.iaload, 1) := by decide +kernel
theorem dX5_storm_108 : decode cX5_storm 108 = .ok (.iconst 1, 1) := by decide +kernel
theorem dX5_storm_109 : decode cX5_storm 109 = .ok (.iadd, 1) := by decide +kernel
theorem dX5_storm_110 : decode cX5_storm 110 = .ok (.iastore, 1) := by decide +kernel
theorem dX5_storm_111 : decode cX5_storm 111 = .ok (.iload 6, 2) := by decide +kernel
theorem dX5_storm_113 : decode cX5_storm 113 = .ok (.ireturn, 1) := by decide +kernel
theorem dX5_cannon_0 : decode cX5_cannon 0 = .ok (.iload_n 1, 1) := by decide +kernel
theorem dX5_cannon_1 : decode cX5_cannon 1 = .ok (.i2l, 1) := by decide +kernel
theorem dX5_cannon_2 : decode cX5_cannon 2 = .ok (.lconst 0, 1) := by decide +kernel
theorem dX5_cannon_3 : decode cX5_cannon 3 = .ok (.ldc2_w 84, 3) := by decide +kernel
theorem dX5_cannon_6 : decode cX5_cannon 6 = .ok (.invokestatic 58, 3) := by decide +kernel
theorem dX5_cannon_9 : decode cX5_cannon 9 = .ok (.ifCond .ne 10, 3) := by decide +kernel
theorem dX5_cannon_12 : decode cX5_cannon 12 = .ok (.aload_n 0, 1) := by decide +kernel
theorem dX5_cannon_13 : decode cX5_cannon 13 = .ok (.bipush (-2), 2) := by decide +kernel
theorem dX5_cannon_15 : decode cX5_cannon 15 = .ok (.invokevirtual 73, 3) := by decide +kernel
theorem dX5_cannon_18 : decode cX5_cannon 18 = .ok (.ireturn, 1) := by decide +kernel
theorem dX5_cannon_19 : decode cX5_cannon 19 = .ok (.iload_n 2, 1) := by decide +kernel
theorem dX5_cannon_20 : decode cX5_cannon 20 = .ok (.ifCond .eq 7, 3) := by decide +kernel
theorem dX5_cannon_23 : decode cX5_cannon 23 = .ok (.iconst 1, 1) := by decide +kernel
theorem dX5_cannon_24 : decode cX5_cannon 24 = .ok (.goto 4, 3) := by decide +kernel
theorem dX5_cannon_27 : decode cX5_cannon 27 = .ok (.iconst 0, 1) := by decide +kernel
theorem dX5_cannon_28 : decode cX5_cannon 28 = .ok (.istore_n 3, 1) := by decide +kernel
theorem dX5_cannon_29 : decode cX5_cannon 29 = .ok (.aload_n 0, 1) := by decide +kernel
theorem dX5_cannon_30 : decode cX5_cannon 30 = .ok (.getfield 7, 3) := by decide +kernel
theorem dX5_cannon_33 : decode cX5_cannon 33 = .ok (.bipush 86, 2) := by decide +kernel
theorem dX5_cannon_35 : decode cX5_cannon 35 = .ok (.iload_n 1, 1) := by decide +kernel
theorem dX5_cannon_36 : decode cX5_cannon 36 = .ok (.iadd, 1) := by decide +kernel
theorem dX5_cannon_37 : decode cX5_cannon 37 = .ok (.iaload, 1) := by decide +kernel
theorem dX5_cannon_38 : decode cX5_cannon 38 = .ok (.iload_n 3, 1) := by decide +kernel
theorem dX5_cannon_39 : decode cX5_cannon 39 = .ok (.if_icmp .ne 10, 3) := by decide +kernel
theorem dX5_cannon_42 : decode cX5_cannon 42 = .ok (.aload_n 0, 1) := by decide +kernel
theorem dX5_cannon_43 : decode cX5_cannon 43 = .ok (.bipush (-3), 2) := by decide +kernel
theorem dX5_cannon_45 : decode cX5_cannon 45 = .ok (.invokevirtual 90, 3) := by decide +kernel
theorem dX5_cannon_48 : decode cX5_cannon 48 = .ok (.ireturn, 1) := by decide +kernel
theorem dX5_cannon_49 : decode cX5_cannon 49 = .ok (.aload_n 0, 1) := by decide +kernel
theorem dX5_cannon_50 : decode cX5_cannon 50 = .ok (.getfield 7, 3) := by decide +kernel
theorem dX5_cannon_53 : decode cX5_cannon 53 = .ok (.bipush 86, 2) := by decide +kernel
theorem dX5_cannon_55 : decode cX5_cannon 55 = .ok (.iload_n 1, 1) := by decide +kernel
theorem dX5_cannon_56 : decode cX5_cannon 56 = .ok (.iadd, 1) := by decide +kernel
theorem dX5_cannon_57 : decode cX5_cannon 57 = .ok (.iload_n 3, 1) := by decide +kernel
theorem dX5_cannon_58 : decode cX5_cannon 58 = .ok (.iastore, 1) := by decide +kernel
theorem dX5_cannon_59 : decode cX5_cannon 59 = .ok (.iconst 1, 1) := by decide +kernel
theorem dX5_cannon_60 : decode cX5_cannon 60 = .ok (.ireturn, 1) := by decide +kernel
theorem dX5_tiles_0 : decode cX5_tiles 0 = .ok (.aload_n 0, 1) := by decide +kernel
theorem dX5_tiles_1 : decode cX5_tiles 1 = .ok (.iload_n 1, 1) := by decide +kernel
theorem dX5_tiles_2 : decode cX5_tiles 2 = .ok (.invokevirtual 93, 3) := by decide +kernel
theorem dX5_tiles_5 : decode cX5_tiles 5 = .ok (.ifCond .eq 23, 3) := by decide +kernel
theorem dX5_tiles_8 : decode cX5_tiles 8 = .ok (.iload_n 2, 1) := by decide +kernel
theorem dX5_tiles_9 : decode cX5_tiles 9 = .ok (.i2l, 1) := by decide +kernel
theorem dX5_tiles_10 : decode cX5_tiles 10 = .ok (.lconst 0, 1) := by decide +kernel
theorem dX5_tiles_11 : decode cX5_tiles 11 = .ok (.lconst 1, 1) := by decide +kernel
theorem dX5_tiles_12 : decode cX5_tiles 12 = .ok (.invokestatic 58, 3) := by decide +kernel
theorem dX5_tiles_15 : decode cX5_tiles 15 = .ok (.ifCond .eq 13, 3) := by decide +kernel
theorem dX5_tiles_18 : decode cX5_tiles 18 = .ok (.iload_n 3, 1) := by decide +kernel
theorem dX5_tiles_19 : decode cX5_tiles 19 = .ok (.i2l, 1) := by decide +kernel
theorem dX5_tiles_20 : decode cX5_tiles 20 = .ok (.lconst 0, 1) := by decide +kernel
theorem dX5_tiles_21 : decode cX5_tiles 21 = .ok (.lconst 1, 1) := by decide +kernel
theorem dX5_tiles_22 : decode cX5_tiles 22 = .ok (.invokestatic 58, 3) := by decide +kernel
theorem dX5_tiles_25 : decode cX5_tiles 25 = .ok (.ifCond .ne 10, 3) := by decide +kernel
theorem dX5_tiles_28 : decode cX5_tiles 28 = .ok (.aload_n 0, 1) := by decide +kernel
theorem dX5_tiles_29 : decode cX5_tiles 29 = .ok (.bipush (-2), 2) := by decide +kernel
theorem dX5_tiles_31 : decode cX5_tiles 31 = .ok (.invokevirtual 73, 3) := by decide +kernel
theorem dX5_tiles_34 : decode cX5_tiles 34 = .ok (.ireturn, 1) := by decide +kernel
theorem dX5_tiles_35 : decode cX5_tiles 35 = .ok (.aload_n 0, 1) := by decide +kernel
theorem dX5_tiles_36 : decode cX5_tiles 36 = .ok (.getfield 7, 3) := by decide +kernel
theorem dX5_tiles_39 : decode cX5_tiles 39 = .ok (.iconst 0, 1) := by decide +kernel
theorem dX5_tiles_40 : decode cX5_tiles 40 = .ok (.bipush 8, 2) := by decide +kernel
theorem dX5_tiles_42 : decode cX5_tiles 42 = .ok (.iload_n 1, 1) := by decide +kernel
theorem dX5_tiles_43 : decode cX5_tiles 43 = .ok (.imul, 1) := by decide +kernel
theorem dX5_tiles_44 : decode cX5_tiles 44 = .ok (.iadd, 1) := by decide +kernel
theorem dX5_tiles_45 : decode cX5_tiles 45 = .ok (.iconst 2, 1) := by decide +kernel
theorem dX5_tiles_46 : decode cX5_tiles 46 = .ok (.iadd, 1) := by decide +kernel
theorem dX5_tiles_47 : decode cX5_tiles 47 = .ok (.iconst 2, 1) := by decide +kernel
theorem dX5_tiles_48 : decode cX5_tiles 48 = .ok (.iload_n 2, 1) := by decide +kernel
theorem dX5_tiles_49 : decode cX5_tiles 49 = .ok (.imul, 1) := by decide +kernel
theorem dX5_tiles_50 : decode cX5_tiles 50 = .ok (.iadd, 1) := by decide +kernel
theorem dX5_tiles_51 : decode cX5_tiles 51 = .ok (.iload_n 3, 1) := by decide +kernel
theorem dX5_tiles_52 : decode cX5_tiles 52 = .ok (.iadd, 1) := by decide +kernel
theorem dX5_tiles_53 : decode cX5_tiles 53 = .ok (.iaload, 1) := by decide +kernel
theorem dX5_tiles_54 : decode cX5_tiles 54 = .ok (.ireturn, 1) := by decide +kernel
theorem dX5_takeNow_0 : decode cX5_takeNow 0 = .ok (.iconst 0, 1) := by decide +kernel
theorem dX5_takeNow_1 : decode cX5_takeNow 1 = .ok (.istore_n 1, 1) := by decide +kernel
theorem dX5_takeNow_2 : decode cX5_takeNow 2 = .ok (.iload_n 1, 1) := by decide +kernel
theorem dX5_takeNow_3 : decode cX5_takeNow 3 = .ok (.bipush 7, 2) := by decide +kernel
theorem dX5_takeNow_5 : decode cX5_takeNow 5 = .ok (.if_icmp .ge 78, 3) := by decide +kernel
theorem dX5_takeNow_8 : decode cX5_takeNow 8 = .ok (.iconst 0, 1) := by decide +kernel
theorem dX5_takeNow_9 : decode cX5_takeNow 9 = .ok (.istore_n 2, 1) := by decide +kernel
theorem dX5_takeNow_10 : decode cX5_takeNow 10 = .ok (.iload_n 2, 1) := by decide +kernel
theorem dX5_takeNow_11 : decode cX5_takeNow 11 = .ok (.iconst 4, 1) := by decide +kernel
theorem dX5_takeNow_12 : decode cX5_takeNow 12 = .ok (.if_icmp .ge 46, 3) := by decide +kernel
theorem dX5_takeNow_15 : decode cX5_takeNow 15 = .ok (.aload_n 0, 1) := by decide +kernel
theorem dX5_takeNow_16 : decode cX5_takeNow 16 = .ok (.getfield 27, 3) := by decide +kernel
theorem dX5_takeNow_19 : decode cX5_takeNow 19 = .ok (.iconst 4, 1) := by decide +kernel
theorem dX5_takeNow_20 : decode cX5_takeNow 20 = .ok (.iload_n 1, 1) := by decide +kernel
theorem dX5_takeNow_21 : decode cX5_takeNow 21 = .ok (.imul, 1) := by decide +kernel
theorem dX5_takeNow_22 : decode cX5_takeNow 22 = .ok (.iload_n 2, 1) := by decide +kernel
theorem dX5_takeNow_23 : decode cX5_takeNow 23 = .ok (.iadd, 1) := by decide +kernel
theorem dX5_takeNow_24 : decode cX5_takeNow 24 = .ok (.iload_n 1, 1) := by decide +kernel
theorem dX5_takeNow_25 : decode cX5_takeNow 25 = .ok (.aload_n 0, 1) := by decide +kernel
theorem dX5_takeNow_26 : decode cX5_takeNow 26 = .ok (.invokevirtual 54, 3) := by decide +kernel
theorem dX5_takeNow_29 : decode cX5_takeNow 29 = .ok (.if_icmp .ge 21, 3) := by decide +kernel
theorem dX5_takeNow_32 : decode cX5_takeNow 32 = .ok (.aload_n 0, 1) := by decide +kernel
theorem dX5_takeNow_33 : decode cX5_takeNow 33 = .ok (.getfield 7, 3) := by decide +kernel
theorem dX5_takeNow_36 : decode cX5_takeNow 36 = .ok (.iconst 0, 1) := by decide +kernel
theorem dX5_takeNow_37 : decode cX5_takeNow 37 = .ok (.bipush 8, 2) := by decide +kernel
theorem dX5_takeNow_39 : decode cX5_takeNow 39 = .ok (.iload_n 1, 1) := by decide +kernel
theorem dX5_takeNow_40 : decode cX5_takeNow 40 = .ok (.imul, 1) := by decide +kernel
theorem dX5_takeNow_41 : decode cX5_takeNow 41 = .ok (.iadd, 1) := by decide +kernel
theorem dX5_takeNow_42 : decode cX5_takeNow 42 = .ok (.iconst 2, 1) := by decide +kernel
theorem dX5_takeNow_43 : decode cX5_takeNow 43 = .ok (.iadd, 1) := by decide +kernel
theorem dX5_takeNow_44 : decode cX5_takeNow 44 = .ok (.iload_n 2, 1) := by decide +kernel
theorem dX5_takeNow_45 : decode cX5_takeNow 45 = .ok (.iadd, 1) := by decide +kernel
theorem dX5_takeNow_46 : decode cX5_takeNow 46 = .ok (.iaload, 1) := by decide +kernel
theorem dX5_takeNow_47 : decode cX5_takeNow 47 = .ok (.goto 4, 3) := by decide +kernel
theorem dX5_takeNow_50 : decode cX5_takeNow 50 = .ok (.iconst 0, 1) := by decide +kernel
theorem dX5_takeNow_51 : decode cX5_takeNow 51 = .ok (.iastore, 1) := by decide +kernel
theorem dX5_takeNow_52 : decode cX5_takeNow 52 = .ok (.iinc 2 1, 3) := by decide +kernel
theorem dX5_takeNow_55 : decode cX5_takeNow 55 = .ok (.goto (-45), 3) := by decide +kernel
theorem dX5_takeNow_58 : decode cX5_takeNow 58 = .ok (.aload_n 0, 1) := by decide +kernel
theorem dX5_takeNow_59 : decode cX5_takeNow 59 = .ok (.getfield 30, 3) := by decide +kernel
theorem dX5_takeNow_62 : decode cX5_takeNow 62 = .ok (.iload_n 1, 1) := by decide +kernel
theorem dX5_takeNow_63 : decode cX5_takeNow 63 = .ok (.aload_n 0, 1) := by decide +kernel
theorem dX5_takeNow_64 : decode cX5_takeNow 64 = .ok (.getfield 7, 3) := by decide +kernel
theorem dX5_takeNow_67 : decode cX5_takeNow 67 = .ok (.iconst 0, 1) := by decide +kernel
theorem dX5_takeNow_68 : decode cX5_takeNow 68 = .ok (.bipush 8, 2) := by decide +kernel
theorem dX5_takeNow_70 : decode cX5_takeNow 70 = .ok (.iload_n 1, 1) := by decide +kernel
theorem dX5_takeNow_71 : decode cX5_takeNow 71 = .ok (.imul, 1) := by decide +kernel
theorem dX5_takeNow_72 : decode cX5_takeNow 72 = .ok (.iadd, 1) := by decide +kernel
theorem dX5_takeNow_73 : decode cX5_takeNow 73 = .ok (.iconst 1, 1) := by decide +kernel
theorem dX5_takeNow_74 : decode cX5_takeNow 74 = .ok (.iadd, 1) := by decide +kernel
theorem dX5_takeNow_75 : decode cX5_takeNow 75 = .ok (.iaload, 1) := by decide +kernel
theorem dX5_takeNow_76 : decode cX5_takeNow 76 = .ok (.iastore, 1) := by decide +kernel
theorem dX5_takeNow_77 : decode cX5_takeNow 77 = .ok (.iinc 1 1, 3) := by decide +kernel
theorem dX5_takeNow_80 : decode cX5_takeNow 80 = .ok (.goto (-78), 3) := by decide +kernel
theorem dX5_takeNow_83 : decode cX5_takeNow 83 = .ok (.return_, 1) := by decide +kernel
theorem dX5_cannonAt_0 : decode cX5_cannonAt 0 = .ok (.iload_n 1, 1) := by decide +kernel
theorem dX5_cannonAt_1 : decode cX5_cannonAt 1 = .ok (.i2l, 1) := by decide +kernel
theorem dX5_cannonAt_2 : decode cX5_cannonAt 2 = .ok (.lconst 0, 1) := by decide +kernel
theorem dX5_cannonAt_3 : decode cX5_cannonAt 3 = .ok (.ldc2_w 84, 3) := by decide +kernel
theorem dX5_cannonAt_6 : decode cX5_cannonAt 6 = .ok (.invokestatic 58, 3) := by decide +kernel
theorem dX5_cannonAt_9 : decode cX5_cannonAt 9 = .ok (.ifCond .eq 15, 3) := by decide +kernel
theorem dX5_cannonAt_12 : decode cX5_cannonAt 12 = .ok (.aload_n 0, 1) := by decide +kernel
theorem dX5_cannonAt_13 : decode cX5_cannonAt 13 = .ok (.getfield 7, 3) := by decide +kernel
theorem dX5_cannonAt_16 : decode cX5_cannonAt 16 = .ok (.bipush 86, 2) := by decide +kernel
theorem dX5_cannonAt_18 : decode cX5_cannonAt 18 = .ok (.iload_n 1, 1) := by decide +kernel
theorem dX5_cannonAt_19 : decode cX5_cannonAt 19 = .ok (.iadd, 1) := by decide +kernel
theorem dX5_cannonAt_20 : decode cX5_cannonAt 20 = .ok (.iaload, 1) := by decide +kernel
theorem dX5_cannonAt_21 : decode cX5_cannonAt 21 = .ok (.goto 4, 3) := by decide +kernel
theorem dX5_cannonAt_24 : decode cX5_cannonAt 24 = .ok (.iconst 0, 1) := by decide +kernel
theorem dX5_cannonAt_25 : decode cX5_cannonAt 25 = .ok (.ireturn, 1) := by decide +kernel
theorem dX5_forceOf_0 : decode cX5_forceOf 0 = .ok (.iload_n 2, 1) := by decide +kernel
theorem dX5_forceOf_1 : decode cX5_forceOf 1 = .ok (.i2l, 1) := by decide +kernel
theorem dX5_forceOf_2 : decode cX5_forceOf 2 = .ok (.aload_n 0, 1) := by decide +kernel
theorem dX5_forceOf_3 : decode cX5_forceOf 3 = .ok (.iload_n 1, 1) := by decide +kernel
theorem dX5_forceOf_4 : decode cX5_forceOf 4 = .ok (.iconst 0, 1) := by decide +kernel
theorem dX5_forceOf_5 : decode cX5_forceOf 5 = .ok (.invokevirtual 97, 3) := by decide +kernel
theorem dX5_forceOf_8 : decode cX5_forceOf 8 = .ok (.i2l, 1) := by decide +kernel
theorem dX5_forceOf_9 : decode cX5_forceOf 9 = .ok (.aload_n 0, 1) := by decide +kernel
theorem dX5_forceOf_10 : decode cX5_forceOf 10 = .ok (.iload_n 1, 1) := by decide +kernel
theorem dX5_forceOf_11 : decode cX5_forceOf 11 = .ok (.iconst 1, 1) := by decide +kernel
theorem dX5_forceOf_12 : decode cX5_forceOf 12 = .ok (.invokevirtual 97, 3) := by decide +kernel
theorem dX5_forceOf_15 : decode cX5_forceOf 15 = .ok (.i2l, 1) := by decide +kernel
theorem dX5_forceOf_16 : decode cX5_forceOf 16 = .ok (.invokestatic 58, 3) := by decide +kernel
theorem dX5_forceOf_19 : decode cX5_forceOf 19 = .ok (.ifCond .ne 5, 3) := by decide +kernel
theorem dX5_forceOf_22 : decode cX5_forceOf 22 = .ok (.iconst 0, 1) := by decide +kernel
theorem dX5_forceOf_23 : decode cX5_forceOf 23 = .ok (.ireturn, 1) := by decide +kernel
theorem dX5_forceOf_24 : decode cX5_forceOf 24 = .ok (.aload_n 0, 1) := by decide +kernel
theorem dX5_forceOf_25 : decode cX5_forceOf 25 = .ok (.iload_n 1, 1) := by decide +kernel
theorem dX5_forceOf_26 : decode cX5_forceOf 26 = .ok (.iconst 3, 1) := by decide +kernel
theorem dX5_forceOf_27 : decode cX5_forceOf 27 = .ok (.invokevirtual 97, 3) := by decide +kernel
theorem dX5_forceOf_30 : decode cX5_forceOf 30 = .ok (.istore 4, 2) := by decide +kernel
theorem dX5_forceOf_32 : decode cX5_forceOf 32 = .ok (.aload_n 0, 1) := by decide +kernel
theorem dX5_forceOf_33 : decode cX5_forceOf 33 = .ok (.iload_n 1, 1) := by decide +kernel
theorem dX5_forceOf_34 : decode cX5_forceOf 34 = .ok (.iconst 2, 1) := by decide +kernel
theorem dX5_forceOf_35 : decode cX5_forceOf 35 = .ok (.invokevirtual 97, 3) := by decide +kernel
theorem dX5_forceOf_38 : decode cX5_forceOf 38 = .ok (.iload_n 3, 1) := by decide +kernel
theorem dX5_forceOf_39 : decode cX5_forceOf 39 = .ok (.if_icmp .ne 8, 3) := by decide +kernel
theorem dX5_forceOf_42 : decode cX5_forceOf 42 = .ok (.iload 4, 2) := by decide +kernel
theorem dX5_forceOf_44 : decode cX5_forceOf 44 = .ok (.goto 7, 3) := by decide +kernel
theorem dX5_forceOf_47 : decode cX5_forceOf 47 = .ok (.iload 4, 2) := by decide +kernel
theorem dX5_forceOf_49 : decode cX5_forceOf 49 = .ok (.iconst 2, 1) := by decide +kernel
theorem dX5_forceOf_50 : decode cX5_forceOf 50 = .ok (.idiv, 1) := by decide +kernel
theorem dX5_forceOf_51 : decode cX5_forceOf 51 = .ok (.istore 5, 2) := by decide +kernel
theorem dX5_forceOf_53 : decode cX5_forceOf 53 = .ok (.iload 5, 2) := by decide +kernel
theorem dX5_forceOf_55 : decode cX5_forceOf 55 = .ok (.iconst 2, 1) := by decide +kernel
theorem dX5_forceOf_56 : decode cX5_forceOf 56 = .ok (.aload_n 0, 1) := by decide +kernel
theorem dX5_forceOf_57 : decode cX5_forceOf 57 = .ok (.iload_n 2, 1) := by decide +kernel
theorem dX5_forceOf_58 : decode cX5_forceOf 58 = .ok (.invokevirtual 101, 3) := by decide +kernel
theorem dX5_forceOf_61 : decode cX5_forceOf 61 = .ok (.imul, 1) := by decide +kernel
theorem dX5_forceOf_62 : decode cX5_forceOf 62 = .ok (.aload_n 0, 1) := by decide +kernel
theorem dX5_forceOf_63 : decode cX5_forceOf 63 = .ok (.iload_n 2, 1) := by decide +kernel
theorem dX5_forceOf_64 : decode cX5_forceOf 64 = .ok (.iconst 1, 1) := by decide +kernel
theorem dX5_forceOf_65 : decode cX5_forceOf 65 = .ok (.isub, 1) := by decide +kernel
theorem dX5_forceOf_66 : decode cX5_forceOf 66 = .ok (.invokevirtual 101, 3) := by decide +kernel
theorem dX5_forceOf_69 : decode cX5_forceOf 69 = .ok (.iadd, 1) := by decide +kernel
theorem dX5_forceOf_70 : decode cX5_forceOf 70 = .ok (.aload_n 0, 1) := by decide +kernel
theorem dX5_forceOf_71 : decode cX5_forceOf 71 = .ok (.iload_n 2, 1) := by decide +kernel
theorem dX5_forceOf_72 : decode cX5_forceOf 72 = .ok (.iconst 1, 1) := by decide +kernel
theorem dX5_forceOf_73 : decode cX5_forceOf 73 = .ok (.iadd, 1) := by decide +kernel
theorem dX5_forceOf_74 : decode cX5_forceOf 74 = .ok (.invokevirtual 101, 3) := by decide +kernel
theorem dX5_forceOf_77 : decode cX5_forceOf 77 = .ok (.iadd, 1) := by decide +kernel
theorem dX5_forceOf_78 : decode cX5_forceOf 78 = .ok (.isub, 1) := by decide +kernel
theorem dX5_forceOf_79 : decode cX5_forceOf 79 = .ok (.istore 5, 2) := by decide +kernel
theorem dX5_forceOf_81 : decode cX5_forceOf 81 = .ok (.iload 5, 2) := by decide +kernel
theorem dX5_forceOf_83 : decode cX5_forceOf 83 = .ok (.ifCond .ge 7, 3) := by decide +kernel
theorem dX5_forceOf_86 : decode cX5_forceOf 86 = .ok (.iconst 0, 1) := by decide +kernel
theorem dX5_forceOf_87 : decode cX5_forceOf 87 = .ok (.goto 5, 3) := by decide +kernel
theorem dX5_forceOf_90 : decode cX5_forceOf 90 = .ok (.iload 5, 2) := by decide +kernel
theorem dX5_forceOf_92 : decode cX5_forceOf 92 = .ok (.ireturn, 1) := by decide +kernel
theorem dX5_force_0 : decode cX5_force 0 = .ok (.aload_n 0, 1) := by decide +kernel
theorem dX5_force_1 : decode cX5_force 1 = .ok (.iload_n 1, 1) := by decide +kernel
theorem dX5_force_2 : decode cX5_force 2 = .ok (.invokevirtual 104, 3) := by decide +kernel
theorem dX5_force_5 : decode cX5_force 5 = .ok (.ifCond .eq 21, 3) := by decide +kernel
theorem dX5_force_8 : decode cX5_force 8 = .ok (.aload_n 0, 1) := by decide +kernel
theorem dX5_force_9 : decode cX5_force 9 = .ok (.iload_n 2, 1) := by decide +kernel
theorem dX5_force_10 : decode cX5_force 10 = .ok (.invokevirtual 93, 3) := by decide +kernel
theorem dX5_force_13 : decode cX5_force 13 = .ok (.ifCond .eq 13, 3) := by decide +kernel
theorem dX5_force_16 : decode cX5_force 16 = .ok (.iload_n 3, 1) := by decide +kernel
theorem dX5_force_17 : decode cX5_force 17 = .ok (.i2l, 1) := by decide +kernel
theorem dX5_force_18 : decode cX5_force 18 = .ok (.lconst 0, 1) := by decide +kernel
theorem dX5_force_19 : decode cX5_force 19 = .ok (.lconst 1, 1) := by decide +kernel
theorem dX5_force_20 : decode cX5_force 20 = .ok (.invokestatic 58, 3) := by decide +kernel
theorem dX5_force_23 : decode cX5_force 23 = .ok (.ifCond .ne 10, 3) := by decide +kernel
theorem dX5_force_26 : decode cX5_force 26 = .ok (.aload_n 0, 1) := by decide +kernel
theorem dX5_force_27 : decode cX5_force 27 = .ok (.bipush (-2), 2) := by decide +kernel
theorem dX5_force_29 : decode cX5_force 29 = .ok (.invokevirtual 73, 3) := by decide +kernel
theorem dX5_force_32 : decode cX5_force 32 = .ok (.ireturn, 1) := by decide +kernel
theorem dX5_force_33 : decode cX5_force 33 = .ok (.aload_n 0, 1) := by decide +kernel
theorem dX5_force_34 : decode cX5_force 34 = .ok (.iload_n 1, 1) := by decide +kernel
theorem dX5_force_35 : decode cX5_force 35 = .ok (.iload_n 2, 1) := by decide +kernel
theorem dX5_force_36 : decode cX5_force 36 = .ok (.iload_n 3, 1) := by decide +kernel
theorem dX5_force_37 : decode cX5_force 37 = .ok (.invokevirtual 107, 3) := by decide +kernel
theorem dX5_force_40 : decode cX5_force 40 = .ok (.ireturn, 1) := by decide +kernel
theorem dX5_hits_0 : decode cX5_hits 0 = .ok (.iload_n 2, 1) := by decide +kernel
theorem dX5_hits_1 : decode cX5_hits 1 = .ok (.ifCond .ne 5, 3) := by decide +kernel
theorem dX5_hits_4 : decode cX5_hits 4 = .ok (.iconst 0, 1) := by decide +kernel
theorem dX5_hits_5 : decode cX5_hits 5 = .ok (.ireturn, 1) := by decide +kernel
theorem dX5_hits_6 : decode cX5_hits 6 = .ok (.aload_n 0, 1) := by decide +kernel
theorem dX5_hits_7 : decode cX5_hits 7 = .ok (.getfield 7, 3) := by decide +kernel
theorem dX5_hits_10 : decode cX5_hits 10 = .ok (.iconst 0, 1) := by decide +kernel
theorem dX5_hits_11 : decode cX5_hits 11 = .ok (.bipush 8, 2) := by decide +kernel
theorem dX5_hits_13 : decode cX5_hits 13 = .ok (.iload_n 1, 1) := by decide +kernel
theorem dX5_hits_14 : decode cX5_hits 14 = .ok (.imul, 1) := by decide +kernel
theorem dX5_hits_15 : decode cX5_hits 15 = .ok (.iadd, 1) := by decide +kernel
theorem dX5_hits_16 : decode cX5_hits 16 = .ok (.iconst 0, 1) := by decide +kernel
theorem dX5_hits_17 : decode cX5_hits 17 = .ok (.iadd, 1) := by decide +kernel
theorem dX5_hits_18 : decode cX5_hits 18 = .ok (.iaload, 1) := by decide +kernel
theorem dX5_hits_19 : decode cX5_hits 19 = .ok (.tableswitch 65 1 5 #[33, 42, 46, 52, 63], 33) := by decide +kernel
theorem dX5_hits_52 : decode cX5_hits 52 = .ok (.iload_n 2, 1) := by decide +kernel
theorem dX5_hits_53 : decode cX5_hits 53 = .ok (.aload_n 0, 1) := by decide +kernel
theorem dX5_hits_54 : decode cX5_hits 54 = .ok (.getfield 30, 3) := by decide +kernel
theorem dX5_hits_57 : decode cX5_hits 57 = .ok (.iload_n 1, 1) := by decide +kernel
theorem dX5_hits_58 : decode cX5_hits 58 = .ok (.iaload, 1) := by decide +kernel
theorem dX5_hits_59 : decode cX5_hits 59 = .ok (.iadd, 1) := by decide +kernel
theorem dX5_hits_60 : decode cX5_hits 60 = .ok (.ireturn, 1) := by decide +kernel
theorem dX5_hits_61 : decode cX5_hits 61 = .ok (.iload_n 2, 1) := by decide +kernel
theorem dX5_hits_62 : decode cX5_hits 62 = .ok (.iconst 2, 1) := by decide +kernel
theorem dX5_hits_63 : decode cX5_hits 63 = .ok (.idiv, 1) := by decide +kernel
theorem dX5_hits_64 : decode cX5_hits 64 = .ok (.ireturn, 1) := by decide +kernel
theorem dX5_hits_65 : decode cX5_hits 65 = .ok (.iload_n 2, 1) := by decide +kernel
theorem dX5_hits_66 : decode cX5_hits 66 = .ok (.iconst 2, 1) := by decide +kernel
theorem dX5_hits_67 : decode cX5_hits 67 = .ok (.idiv, 1) := by decide +kernel
theorem dX5_hits_68 : decode cX5_hits 68 = .ok (.iconst 1, 1) := by decide +kernel
theorem dX5_hits_69 : decode cX5_hits 69 = .ok (.isub, 1) := by decide +kernel
theorem dX5_hits_70 : decode cX5_hits 70 = .ok (.ireturn, 1) := by decide +kernel
theorem dX5_hits_71 : decode cX5_hits 71 = .ok (.iload_n 2, 1) := by decide +kernel
theorem dX5_hits_72 : decode cX5_hits 72 = .ok (.aload_n 0, 1) := by decide +kernel
theorem dX5_hits_73 : decode cX5_hits 73 = .ok (.getfield 30, 3) := by decide +kernel
theorem dX5_hits_76 : decode cX5_hits 76 = .ok (.iload_n 1, 1) := by decide +kernel
theorem dX5_hits_77 : decode cX5_hits 77 = .ok (.iaload, 1) := by decide +kernel
theorem dX5_hits_78 : decode cX5_hits 78 = .ok (.iadd, 1) := by decide +kernel
theorem dX5_hits_79 : decode cX5_hits 79 = .ok (.iconst 3, 1) := by decide +kernel
theorem dX5_hits_80 : decode cX5_hits 80 = .ok (.isub, 1) := by decide +kernel
theorem dX5_hits_81 : decode cX5_hits 81 = .ok (.ireturn, 1) := by decide +kernel
theorem dX5_hits_82 : decode cX5_hits 82 = .ok (.iconst 0, 1) := by decide +kernel
theorem dX5_hits_83 : decode cX5_hits 83 = .ok (.ireturn, 1) := by decide +kernel
theorem dX5_hits_84 : decode cX5_hits 84 = .ok (.iload_n 2, 1) := by decide +kernel
theorem dX5_hits_85 : decode cX5_hits 85 = .ok (.ireturn, 1) := by decide +kernel
theorem dX5_breaksOf_0 : decode cX5_breaksOf 0 = .ok (.aload_n 0, 1) := by decide +kernel
theorem dX5_breaksOf_1 : decode cX5_breaksOf 1 = .ok (.iload_n 2, 1) := by decide +kernel
theorem dX5_breaksOf_2 : decode cX5_breaksOf 2 = .ok (.aload_n 0, 1) := by decide +kernel
theorem dX5_breaksOf_3 : decode cX5_breaksOf 3 = .ok (.iload_n 1, 1) := by decide +kernel
theorem dX5_breaksOf_4 : decode cX5_breaksOf 4 = .ok (.iload_n 2, 1) := by decide +kernel
theorem dX5_breaksOf_5 : decode cX5_breaksOf 5 = .ok (.iload_n 3, 1) := by decide +kernel
theorem dX5_breaksOf_6 : decode cX5_breaksOf 6 = .ok (.invokevirtual 107, 3) := by decide +kernel
theorem dX5_breaksOf_9 : decode cX5_breaksOf 9 = .ok (.invokevirtual 111, 3) := by decide +kernel
theorem dX5_breaksOf_12 : decode cX5_breaksOf 12 = .ok (.istore 5, 2) := by decide +kernel
theorem dX5_breaksOf_14 : decode cX5_breaksOf 14 = .ok (.aload_n 0, 1) := by decide +kernel
theorem dX5_breaksOf_15 : decode cX5_breaksOf 15 = .ok (.getfield 27, 3) := by decide +kernel
theorem dX5_breaksOf_18 : decode cX5_breaksOf 18 = .ok (.iconst 4, 1) := by decide +kernel
theorem dX5_breaksOf_19 : decode cX5_breaksOf 19 = .ok (.iload_n 2, 1) := by decide +kernel
theorem dX5_breaksOf_20 : decode cX5_breaksOf 20 = .ok (.imul, 1) := by decide +kernel
theorem dX5_breaksOf_21 : decode cX5_breaksOf 21 = .ok (.iconst 2, 1) := by decide +kernel
theorem dX5_breaksOf_22 : decode cX5_breaksOf 22 = .ok (.iload_n 3, 1) := by decide +kernel
theorem dX5_breaksOf_23 : decode cX5_breaksOf 23 = .ok (.imul, 1) := by decide +kernel
theorem dX5_breaksOf_24 : decode cX5_breaksOf 24 = .ok (.iadd, 1) := by decide +kernel
theorem dX5_breaksOf_25 : decode cX5_breaksOf 25 = .ok (.iload 4, 2) := by decide +kernel
theorem dX5_breaksOf_27 : decode cX5_breaksOf 27 = .ok (.iadd, 1) := by decide +kernel
theorem dX5_breaksOf_28 : decode cX5_breaksOf 28 = .ok (.iaload, 1) := by decide +kernel
theorem dX5_breaksOf_29 : decode cX5_breaksOf 29 = .ok (.istore 6, 2) := by decide +kernel
theorem dX5_breaksOf_31 : decode cX5_breaksOf 31 = .ok (.iload 5, 2) := by decide +kernel
theorem dX5_breaksOf_33 : decode cX5_breaksOf 33 = .ok (.ifCond .ge 7, 3) := by decide +kernel
theorem dX5_breaksOf_36 : decode cX5_breaksOf 36 = .ok (.iconst 0, 1) := by decide +kernel
theorem dX5_breaksOf_37 : decode cX5_breaksOf 37 = .ok (.goto 17, 3) := by decide +kernel
theorem dX5_breaksOf_40 : decode cX5_breaksOf 40 = .ok (.iload 5, 2) := by decide +kernel
theorem dX5_breaksOf_42 : decode cX5_breaksOf 42 = .ok (.iload 6, 2) := by decide +kernel
theorem dX5_breaksOf_44 : decode cX5_breaksOf 44 = .ok (.if_icmp .le 8, 3) := by decide +kernel
theorem dX5_breaksOf_47 : decode cX5_breaksOf 47 = .ok (.iload 6, 2) := by decide +kernel
theorem dX5_breaksOf_49 : decode cX5_breaksOf 49 = .ok (.goto 5, 3) := by decide +kernel
theorem dX5_breaksOf_52 : decode cX5_breaksOf 52 = .ok (.iload 5, 2) := by decide +kernel
theorem dX5_breaksOf_54 : decode cX5_breaksOf 54 = .ok (.ireturn, 1) := by decide +kernel
theorem dX5_breaksAll_0 : decode cX5_breaksAll 0 = .ok (.aload_n 0, 1) := by decide +kernel
theorem dX5_breaksAll_1 : decode cX5_breaksAll 1 = .ok (.iload_n 1, 1) := by decide +kernel
theorem dX5_breaksAll_2 : decode cX5_breaksAll 2 = .ok (.iload_n 2, 1) := by decide +kernel
theorem dX5_breaksAll_3 : decode cX5_breaksAll 3 = .ok (.iconst 0, 1) := by decide +kernel
theorem dX5_breaksAll_4 : decode cX5_breaksAll 4 = .ok (.iload_n 3, 1) := by decide +kernel
theorem dX5_breaksAll_5 : decode cX5_breaksAll 5 = .ok (.invokevirtual 114, 3) := by decide +kernel
theorem dX5_breaksAll_8 : decode cX5_breaksAll 8 = .ok (.aload_n 0, 1) := by decide +kernel
theorem dX5_breaksAll_9 : decode cX5_breaksAll 9 = .ok (.iload_n 1, 1) := by decide +kernel
theorem dX5_breaksAll_10 : decode cX5_breaksAll 10 = .ok (.iload_n 2, 1) := by decide +kernel
theorem dX5_breaksAll_11 : decode cX5_breaksAll 11 = .ok (.iconst 1, 1) := by decide +kernel
theorem dX5_breaksAll_12 : decode cX5_breaksAll 12 = .ok (.iload_n 3, 1) := by decide +kernel
theorem dX5_breaksAll_13 : decode cX5_breaksAll 13 = .ok (.invokevirtual 114, 3) := by decide +kernel
theorem dX5_breaksAll_16 : decode cX5_breaksAll 16 = .ok (.iadd, 1) := by decide +kernel
theorem dX5_breaksAll_17 : decode cX5_breaksAll 17 = .ok (.ireturn, 1) := by decide +kernel
theorem dX5_brokenBy_0 : decode cX5_brokenBy 0 = .ok (.iconst 0, 1) := by decide +kernel
theorem dX5_brokenBy_1 : decode cX5_brokenBy 1 = .ok (.istore_n 3, 1) := by decide +kernel
theorem dX5_brokenBy_2 : decode cX5_brokenBy 2 = .ok (.iconst 0, 1) := by decide +kernel
theorem dX5_brokenBy_3 : decode cX5_brokenBy 3 = .ok (.istore 4, 2) := by decide +kernel
theorem dX5_brokenBy_5 : decode cX5_brokenBy 5 = .ok (.iload 4, 2) := by decide +kernel
theorem dX5_brokenBy_7 : decode cX5_brokenBy 7 = .ok (.aload_n 0, 1) := by decide +kernel
theorem dX5_brokenBy_8 : decode cX5_brokenBy 8 = .ok (.invokevirtual 54, 3) := by decide +kernel
theorem dX5_brokenBy_11 : decode cX5_brokenBy 11 = .ok (.if_icmp .ge 20, 3) := by decide +kernel
theorem dX5_brokenBy_14 : decode cX5_brokenBy 14 = .ok (.iload_n 3, 1) := by decide +kernel
theorem dX5_brokenBy_15 : decode cX5_brokenBy 15 = .ok (.aload_n 0, 1) := by decide +kernel
theorem dX5_brokenBy_16 : decode cX5_brokenBy 16 = .ok (.iload_n 1, 1) := by decide +kernel
theorem dX5_brokenBy_17 : decode cX5_brokenBy 17 = .ok (.iload 4, 2) := by decide +kernel
theorem dX5_brokenBy_19 : decode cX5_brokenBy 19 = .ok (.iload_n 2, 1) := by decide +kernel
theorem dX5_brokenBy_20 : decode cX5_brokenBy 20 = .ok (.invokevirtual 118, 3) := by decide +kernel
theorem dX5_brokenBy_23 : decode cX5_brokenBy 23 = .ok (.iadd, 1) := by decide +kernel
theorem dX5_brokenBy_24 : decode cX5_brokenBy 24 = .ok (.istore_n 3, 1) := by decide +kernel
theorem dX5_brokenBy_25 : decode cX5_brokenBy 25 = .ok (.iinc 4 1, 3) := by decide +kernel
theorem dX5_brokenBy_28 : decode cX5_brokenBy 28 = .ok (.goto (-23), 3) := by decide +kernel
theorem dX5_brokenBy_31 : decode cX5_brokenBy 31 = .ok (.iload_n 3, 1) := by decide +kernel
theorem dX5_brokenBy_32 : decode cX5_brokenBy 32 = .ok (.ireturn, 1) := by decide +kernel
theorem dX5_breaks_0 : decode cX5_breaks 0 = .ok (.aload_n 0, 1) := by decide +kernel
theorem dX5_breaks_1 : decode cX5_breaks 1 = .ok (.iload_n 1, 1) := by decide +kernel
theorem dX5_breaks_2 : decode cX5_breaks 2 = .ok (.invokevirtual 104, 3) := by decide +kernel
theorem dX5_breaks_5 : decode cX5_breaks 5 = .ok (.ifCond .eq 26, 3) := by decide +kernel
theorem dX5_breaks_8 : decode cX5_breaks 8 = .ok (.iload_n 2, 1) := by decide +kernel
theorem dX5_breaks_9 : decode cX5_breaks 9 = .ok (.iconst (-1), 1) := by decide +kernel
theorem dX5_breaks_10 : decode cX5_breaks 10 = .ok (.if_icmp .eq 11, 3) := by decide +kernel
theorem dX5_breaks_13 : decode cX5_breaks 13 = .ok (.aload_n 0, 1) := by decide +kernel
theorem dX5_breaks_14 : decode cX5_breaks 14 = .ok (.iload_n 2, 1) := by decide +kernel
theorem dX5_breaks_15 : decode cX5_breaks 15 = .ok (.invokevirtual 93, 3) := by decide +kernel
theorem dX5_breaks_18 : decode cX5_breaks 18 = .ok (.ifCond .eq 13, 3) := by decide +kernel
theorem dX5_breaks_21 : decode cX5_breaks 21 = .ok (.iload_n 3, 1) := by decide +kernel
theorem dX5_breaks_22 : decode cX5_breaks 22 = .ok (.i2l, 1) := by decide +kernel
theorem dX5_breaks_23 : decode cX5_breaks 23 = .ok (.lconst 0, 1) := by decide +kernel
theorem dX5_breaks_24 : decode cX5_breaks 24 = .ok (.lconst 1, 1) := by decide +kernel
theorem dX5_breaks_25 : decode cX5_breaks 25 = .ok (.invokestatic 58, 3) := by decide +kernel
theorem dX5_breaks_28 : decode cX5_breaks 28 = .ok (.ifCond .ne 10, 3) := by decide +kernel
theorem dX5_breaks_31 : decode cX5_breaks 31 = .ok (.aload_n 0, 1) := by decide +kernel
theorem dX5_breaks_32 : decode cX5_breaks 32 = .ok (.bipush (-2), 2) := by decide +kernel
theorem dX5_breaks_34 : decode cX5_breaks 34 = .ok (.invokevirtual 73, 3) := by decide +kernel
theorem dX5_breaks_37 : decode cX5_breaks 37 = .ok (.ireturn, 1) := by decide +kernel
theorem dX5_breaks_38 : decode cX5_breaks 38 = .ok (.aload_n 0, 1) := by decide +kernel
theorem dX5_breaks_39 : decode cX5_breaks 39 = .ok (.invokevirtual 121, 3) := by decide +kernel
theorem dX5_breaks_42 : decode cX5_breaks 42 = .ok (.iload_n 2, 1) := by decide +kernel
theorem dX5_breaks_43 : decode cX5_breaks 43 = .ok (.iconst (-1), 1) := by decide +kernel
theorem dX5_breaks_44 : decode cX5_breaks 44 = .ok (.if_icmp .ne 12, 3) := by decide +kernel
theorem dX5_breaks_47 : decode cX5_breaks 47 = .ok (.aload_n 0, 1) := by decide +kernel
theorem dX5_breaks_48 : decode cX5_breaks 48 = .ok (.iload_n 1, 1) := by decide +kernel
theorem dX5_breaks_49 : decode cX5_breaks 49 = .ok (.iload_n 3, 1) := by decide +kernel
theorem dX5_breaks_50 : decode cX5_breaks 50 = .ok (.invokevirtual 124, 3) := by decide +kernel
theorem dX5_breaks_53 : decode cX5_breaks 53 = .ok (.goto 10, 3) := by decide +kernel
theorem dX5_breaks_56 : decode cX5_breaks 56 = .ok (.aload_n 0, 1) := by decide +kernel
theorem dX5_breaks_57 : decode cX5_breaks 57 = .ok (.iload_n 1, 1) := by decide +kernel
theorem dX5_breaks_58 : decode cX5_breaks 58 = .ok (.iload_n 2, 1) := by decide +kernel
theorem dX5_breaks_59 : decode cX5_breaks 59 = .ok (.iload_n 3, 1) := by decide +kernel
theorem dX5_breaks_60 : decode cX5_breaks 60 = .ok (.invokevirtual 118, 3) := by decide +kernel
theorem dX5_breaks_63 : decode cX5_breaks 63 = .ok (.ireturn, 1) := by decide +kernel
theorem dX5_winner_0 : decode cX5_winner 0 = .ok (.aload_n 0, 1) := by decide +kernel
theorem dX5_winner_1 : decode cX5_winner 1 = .ok (.iload_n 1, 1) := by decide +kernel
theorem dX5_winner_2 : decode cX5_winner 2 = .ok (.iconst 0, 1) := by decide +kernel
theorem dX5_winner_3 : decode cX5_winner 3 = .ok (.invokevirtual 124, 3) := by decide +kernel
theorem dX5_winner_6 : decode cX5_winner 6 = .ok (.istore_n 2, 1) := by decide +kernel
theorem dX5_winner_7 : decode cX5_winner 7 = .ok (.aload_n 0, 1) := by decide +kernel
theorem dX5_winner_8 : decode cX5_winner 8 = .ok (.iload_n 1, 1) := by decide +kernel
theorem dX5_winner_9 : decode cX5_winner 9 = .ok (.iconst 1, 1) := by decide +kernel
theorem dX5_winner_10 : decode cX5_winner 10 = .ok (.invokevirtual 124, 3) := by decide +kernel
theorem dX5_winner_13 : decode cX5_winner 13 = .ok (.istore_n 3, 1) := by decide +kernel
theorem dX5_winner_14 : decode cX5_winner 14 = .ok (.iload_n 2, 1) := by decide +kernel
theorem dX5_winner_15 : decode cX5_winner 15 = .ok (.iload_n 3, 1) := by decide +kernel
theorem dX5_winner_16 : decode cX5_winner 16 = .ok (.if_icmp .le 7, 3) := by decide +kernel
theorem dX5_winner_19 : decode cX5_winner 19 = .ok (.iconst 1, 1) := by decide +kernel
theorem dX5_winner_20 : decode cX5_winner 20 = .ok (.goto 13, 3) := by decide +kernel
theorem dX5_winner_23 : decode cX5_winner 23 = .ok (.iload_n 3, 1) := by decide +kernel
theorem dX5_winner_24 : decode cX5_winner 24 = .ok (.iload_n 2, 1) := by decide +kernel
theorem dX5_winner_25 : decode cX5_winner 25 = .ok (.if_icmp .le 7, 3) := by decide +kernel
theorem dX5_winner_28 : decode cX5_winner 28 = .ok (.iconst 0, 1) := by decide +kernel
theorem dX5_winner_29 : decode cX5_winner 29 = .ok (.goto 4, 3) := by decide +kernel
theorem dX5_winner_32 : decode cX5_winner 32 = .ok (.iconst (-1), 1) := by decide +kernel
theorem dX5_winner_33 : decode cX5_winner 33 = .ok (.ireturn, 1) := by decide +kernel
theorem dX5_wins_0 : decode cX5_wins 0 = .ok (.aload_n 0, 1) := by decide +kernel
theorem dX5_wins_1 : decode cX5_wins 1 = .ok (.iload_n 1, 1) := by decide +kernel
theorem dX5_wins_2 : decode cX5_wins 2 = .ok (.invokevirtual 104, 3) := by decide +kernel
theorem dX5_wins_5 : decode cX5_wins 5 = .ok (.ifCond .ne 10, 3) := by decide +kernel
theorem dX5_wins_8 : decode cX5_wins 8 = .ok (.aload_n 0, 1) := by decide +kernel
theorem dX5_wins_9 : decode cX5_wins 9 = .ok (.bipush (-2), 2) := by decide +kernel
theorem dX5_wins_11 : decode cX5_wins 11 = .ok (.invokevirtual 73, 3) := by decide +kernel
theorem dX5_wins_14 : decode cX5_wins 14 = .ok (.ireturn, 1) := by decide +kernel
theorem dX5_wins_15 : decode cX5_wins 15 = .ok (.aload_n 0, 1) := by decide +kernel
theorem dX5_wins_16 : decode cX5_wins 16 = .ok (.invokevirtual 121, 3) := by decide +kernel
theorem dX5_wins_19 : decode cX5_wins 19 = .ok (.aload_n 0, 1) := by decide +kernel
theorem dX5_wins_20 : decode cX5_wins 20 = .ok (.iload_n 1, 1) := by decide +kernel
theorem dX5_wins_21 : decode cX5_wins 21 = .ok (.invokevirtual 127, 3) := by decide +kernel
theorem dX5_wins_24 : decode cX5_wins 24 = .ok (.ireturn, 1) := by decide +kernel
theorem dX5_allChances_0 : decode cX5_allChances 0 = .ok (.iconst 0, 1) := by decide +kernel
theorem dX5_allChances_1 : decode cX5_allChances 1 = .ok (.istore_n 1, 1) := by decide +kernel
theorem dX5_allChances_2 : decode cX5_allChances 2 = .ok (.iconst 0, 1) := by decide +kernel
theorem dX5_allChances_3 : decode cX5_allChances 3 = .ok (.istore_n 2, 1) := by decide +kernel
theorem dX5_allChances_4 : decode cX5_allChances 4 = .ok (.iload_n 2, 1) := by decide +kernel
theorem dX5_allChances_5 : decode cX5_allChances 5 = .ok (.aload_n 0, 1) := by decide +kernel
theorem dX5_allChances_6 : decode cX5_allChances 6 = .ok (.invokevirtual 62, 3) := by decide +kernel
theorem dX5_allChances_9 : decode cX5_allChances 9 = .ok (.if_icmp .ge 18, 3) := by decide +kernel
theorem dX5_allChances_12 : decode cX5_allChances 12 = .ok (.iload_n 1, 1) := by decide +kernel
theorem dX5_allChances_13 : decode cX5_allChances 13 = .ok (.aload_n 0, 1) := by decide +kernel
theorem dX5_allChances_14 : decode cX5_allChances 14 = .ok (.iload_n 2, 1) := by decide +kernel
theorem dX5_allChances_15 : decode cX5_allChances 15 = .ok (.iconst 4, 1) := by decide +kernel
theorem dX5_allChances_16 : decode cX5_allChances 16 = .ok (.invokevirtual 97, 3) := by decide +kernel
theorem dX5_allChances_19 : decode cX5_allChances 19 = .ok (.iadd, 1) := by decide +kernel
theorem dX5_allChances_20 : decode cX5_allChances 20 = .ok (.istore_n 1, 1) := by decide +kernel
theorem dX5_allChances_21 : decode cX5_allChances 21 = .ok (.iinc 2 1, 3) := by decide +kernel
theorem dX5_allChances_24 : decode cX5_allChances 24 = .ok (.goto (-20), 3) := by decide +kernel
theorem dX5_allChances_27 : decode cX5_allChances 27 = .ok (.iload_n 1, 1) := by decide +kernel
theorem dX5_allChances_28 : decode cX5_allChances 28 = .ok (.ireturn, 1) := by decide +kernel
theorem dX5_chanceOf_0 : decode cX5_chanceOf 0 = .ok (.iconst 0, 1) := by decide +kernel
theorem dX5_chanceOf_1 : decode cX5_chanceOf 1 = .ok (.istore_n 2, 1) := by decide +kernel
theorem dX5_chanceOf_2 : decode cX5_chanceOf 2 = .ok (.iconst 0, 1) := by decide +kernel
theorem dX5_chanceOf_3 : decode cX5_chanceOf 3 = .ok (.istore_n 3, 1) := by decide +kernel
theorem dX5_chanceOf_4 : decode cX5_chanceOf 4 = .ok (.iload_n 3, 1) := by decide +kernel
theorem dX5_chanceOf_5 : decode cX5_chanceOf 5 = .ok (.aload_n 0, 1) := by decide +kernel
theorem dX5_chanceOf_6 : decode cX5_chanceOf 6 = .ok (.invokevirtual 62, 3) := by decide +kernel
theorem dX5_chanceOf_9 : decode cX5_chanceOf 9 = .ok (.if_icmp .ge 31, 3) := by decide +kernel
theorem dX5_chanceOf_12 : decode cX5_chanceOf 12 = .ok (.iload_n 2, 1) := by decide +kernel
theorem dX5_chanceOf_13 : decode cX5_chanceOf 13 = .ok (.aload_n 0, 1) := by decide +kernel
theorem dX5_chanceOf_14 : decode cX5_chanceOf 14 = .ok (.iload_n 3, 1) := by decide +kernel
theorem dX5_chanceOf_15 : decode cX5_chanceOf 15 = .ok (.invokevirtual 127, 3) := by decide +kernel
theorem dX5_chanceOf_18 : decode cX5_chanceOf 18 = .ok (.iload_n 1, 1) := by decide +kernel
theorem dX5_chanceOf_19 : decode cX5_chanceOf 19 = .ok (.if_icmp .ne 12, 3) := by decide +kernel
theorem dX5_chanceOf_22 : decode cX5_chanceOf 22 = .ok (.aload_n 0, 1) := by decide +kernel
theorem dX5_chanceOf_23 : decode cX5_chanceOf 23 = .ok (.iload_n 3, 1) := by decide +kernel
theorem dX5_chanceOf_24 : decode cX5_chanceOf 24 = .ok (.iconst 4, 1) := by decide +kernel
theorem dX5_chanceOf_25 : decode cX5_chanceOf 25 = .ok (.invokevirtual 97, 3) := by decide +kernel
theorem dX5_chanceOf_28 : decode cX5_chanceOf 28 = .ok (.goto 4, 3) := by decide +kernel
theorem dX5_chanceOf_31 : decode cX5_chanceOf 31 = .ok (.iconst 0, 1) := by decide +kernel
theorem dX5_chanceOf_32 : decode cX5_chanceOf 32 = .ok (.iadd, 1) := by decide +kernel
theorem dX5_chanceOf_33 : decode cX5_chanceOf 33 = .ok (.istore_n 2, 1) := by decide +kernel
theorem dX5_chanceOf_34 : decode cX5_chanceOf 34 = .ok (.iinc 3 1, 3) := by decide +kernel
theorem dX5_chanceOf_37 : decode cX5_chanceOf 37 = .ok (.goto (-33), 3) := by decide +kernel
theorem dX5_chanceOf_40 : decode cX5_chanceOf 40 = .ok (.iload_n 2, 1) := by decide +kernel
theorem dX5_chanceOf_41 : decode cX5_chanceOf 41 = .ok (.ireturn, 1) := by decide +kernel
theorem dX5_odds_0 : decode cX5_odds 0 = .ok (.iload_n 1, 1) := by decide +kernel
theorem dX5_odds_1 : decode cX5_odds 1 = .ok (.i2l, 1) := by decide +kernel
theorem dX5_odds_2 : decode cX5_odds 2 = .ok (.lconst 0, 1) := by decide +kernel
theorem dX5_odds_3 : decode cX5_odds 3 = .ok (.ldc2_w 130, 3) := by decide +kernel
theorem dX5_odds_6 : decode cX5_odds 6 = .ok (.invokestatic 58, 3) := by decide +kernel
theorem dX5_odds_9 : decode cX5_odds 9 = .ok (.ifCond .ne 10, 3) := by decide +kernel
theorem dX5_odds_12 : decode cX5_odds 12 = .ok (.aload_n 0, 1) := by decide +kernel
theorem dX5_odds_13 : decode cX5_odds 13 = .ok (.bipush (-2), 2) := by decide +kernel
theorem dX5_odds_15 : decode cX5_odds 15 = .ok (.invokevirtual 73, 3) := by decide +kernel
theorem dX5_odds_18 : decode cX5_odds 18 = .ok (.ireturn, 1) := by decide +kernel
theorem dX5_odds_19 : decode cX5_odds 19 = .ok (.aload_n 0, 1) := by decide +kernel
theorem dX5_odds_20 : decode cX5_odds 20 = .ok (.invokevirtual 62, 3) := by decide +kernel
theorem dX5_odds_23 : decode cX5_odds 23 = .ok (.ifCond .ne 10, 3) := by decide +kernel
theorem dX5_odds_26 : decode cX5_odds 26 = .ok (.aload_n 0, 1) := by decide +kernel
theorem dX5_odds_27 : decode cX5_odds 27 = .ok (.bipush (-3), 2) := by decide +kernel
theorem dX5_odds_29 : decode cX5_odds 29 = .ok (.invokevirtual 90, 3) := by decide +kernel
theorem dX5_odds_32 : decode cX5_odds 32 = .ok (.ireturn, 1) := by decide +kernel
theorem dX5_odds_33 : decode cX5_odds 33 = .ok (.aload_n 0, 1) := by decide +kernel
theorem dX5_odds_34 : decode cX5_odds 34 = .ok (.invokevirtual 121, 3) := by decide +kernel
theorem dX5_odds_37 : decode cX5_odds 37 = .ok (.aload_n 0, 1) := by decide +kernel
theorem dX5_odds_38 : decode cX5_odds 38 = .ok (.aload_n 0, 1) := by decide +kernel
theorem dX5_odds_39 : decode cX5_odds 39 = .ok (.iload_n 1, 1) := by decide +kernel
theorem dX5_odds_40 : decode cX5_odds 40 = .ok (.iconst 2, 1) := by decide +kernel
theorem dX5_odds_41 : decode cX5_odds 41 = .ok (.if_icmp .ne 7, 3) := by decide +kernel
theorem dX5_odds_44 : decode cX5_odds 44 = .ok (.iconst (-1), 1) := by decide +kernel
theorem dX5_odds_45 : decode cX5_odds 45 = .ok (.goto 4, 3) := by decide +kernel
theorem dX5_odds_48 : decode cX5_odds 48 = .ok (.iload_n 1, 1) := by decide +kernel
theorem dX5_odds_49 : decode cX5_odds 49 = .ok (.invokevirtual 132, 3) := by decide +kernel
theorem dX5_odds_52 : decode cX5_odds 52 = .ok (.i2l, 1) := by decide +kernel
theorem dX5_odds_53 : decode cX5_odds 53 = .ok (.aload_n 0, 1) := by decide +kernel
theorem dX5_odds_54 : decode cX5_odds 54 = .ok (.invokevirtual 135, 3) := by decide +kernel
theorem dX5_odds_57 : decode cX5_odds 57 = .ok (.i2l, 1) := by decide +kernel
theorem dX5_odds_58 : decode cX5_odds 58 = .ok (.invokevirtual 138, 3) := by decide +kernel
theorem dX5_odds_61 : decode cX5_odds 61 = .ok (.ireturn, 1) := by decide +kernel
theorem dX5_brushOn_0 : decode cX5_brushOn 0 = .ok (.aload_n 0, 1) := by decide +kernel
theorem dX5_brushOn_1 : decode cX5_brushOn 1 = .ok (.getfield 27, 3) := by decide +kernel
theorem dX5_brushOn_4 : decode cX5_brushOn 4 = .ok (.iconst 2, 1) := by decide +kernel
theorem dX5_brushOn_5 : decode cX5_brushOn 5 = .ok (.iload_n 1, 1) := by decide +kernel
theorem dX5_brushOn_6 : decode cX5_brushOn 6 = .ok (.imul, 1) := by decide +kernel
theorem dX5_brushOn_7 : decode cX5_brushOn 7 = .ok (.iload_n 2, 1) := by decide +kernel
theorem dX5_brushOn_8 : decode cX5_brushOn 8 = .ok (.iadd, 1) := by decide +kernel
theorem dX5_brushOn_9 : decode cX5_brushOn 9 = .ok (.dup2, 1) := by decide +kernel
theorem dX5_brushOn_10 : decode cX5_brushOn 10 = .ok (.iaload, 1) := by decide +kernel
theorem dX5_brushOn_11 : decode cX5_brushOn 11 = .ok (.iload_n 3, 1) := by decide +kernel
theorem dX5_brushOn_12 : decode cX5_brushOn 12 = .ok (.iadd, 1) := by decide +kernel
theorem dX5_brushOn_13 : decode cX5_brushOn 13 = .ok (.iastore, 1) := by decide +kernel
theorem dX5_brushOn_14 : decode cX5_brushOn 14 = .ok (.aload_n 0, 1) := by decide +kernel
theorem dX5_brushOn_15 : decode cX5_brushOn 15 = .ok (.getfield 27, 3) := by decide +kernel
theorem dX5_brushOn_18 : decode cX5_brushOn 18 = .ok (.iconst 2, 1) := by decide +kernel
theorem dX5_brushOn_19 : decode cX5_brushOn 19 = .ok (.iload_n 1, 1) := by decide +kernel
theorem dX5_brushOn_20 : decode cX5_brushOn 20 = .ok (.imul, 1) := by decide +kernel
theorem dX5_brushOn_21 : decode cX5_brushOn 21 = .ok (.iconst 1, 1) := by decide +kernel
theorem dX5_brushOn_22 : decode cX5_brushOn 22 = .ok (.iadd, 1) := by decide +kernel
theorem dX5_brushOn_23 : decode cX5_brushOn 23 = .ok (.iload_n 2, 1) := by decide +kernel
theorem dX5_brushOn_24 : decode cX5_brushOn 24 = .ok (.isub, 1) := by decide +kernel
theorem dX5_brushOn_25 : decode cX5_brushOn 25 = .ok (.dup2, 1) := by decide +kernel
theorem dX5_brushOn_26 : decode cX5_brushOn 26 = .ok (.iaload, 1) := by decide +kernel
theorem dX5_brushOn_27 : decode cX5_brushOn 27 = .ok (.iload_n 3, 1) := by decide +kernel
theorem dX5_brushOn_28 : decode cX5_brushOn 28 = .ok (.isub, 1) := by decide +kernel
theorem dX5_brushOn_29 : decode cX5_brushOn 29 = .ok (.iastore, 1) := by decide +kernel
theorem dX5_brushOn_30 : decode cX5_brushOn 30 = .ok (.return_, 1) := by decide +kernel
theorem dX5_findPaint_0 : decode cX5_findPaint 0 = .ok (.aload_n 0, 1) := by decide +kernel
theorem dX5_findPaint_1 : decode cX5_findPaint 1 = .ok (.invokevirtual 121, 3) := by decide +kernel
theorem dX5_findPaint_4 : decode cX5_findPaint 4 = .ok (.aload_n 0, 1) := by decide +kernel
theorem dX5_findPaint_5 : decode cX5_findPaint 5 = .ok (.iconst (-1), 1) := by decide +kernel
theorem dX5_findPaint_6 : decode cX5_findPaint 6 = .ok (.putfield 142, 3) := by decide +kernel
theorem dX5_findPaint_9 : decode cX5_findPaint 9 = .ok (.iconst 2, 1) := by decide +kernel
theorem dX5_findPaint_10 : decode cX5_findPaint 10 = .ok (.aload_n 0, 1) := by decide +kernel
theorem dX5_findPaint_11 : decode cX5_findPaint 11 = .ok (.invokevirtual 54, 3) := by decide +kernel
theorem dX5_findPaint_14 : decode cX5_findPaint 14 = .ok (.imul, 1) := by decide +kernel
theorem dX5_findPaint_15 : decode cX5_findPaint 15 = .ok (.istore_n 3, 1) := by decide +kernel
theorem dX5_findPaint_16 : decode cX5_findPaint 16 = .ok (.iload_n 2, 1) := by decide +kernel
theorem dX5_findPaint_17 : decode cX5_findPaint 17 = .ok (.istore 4, 2) := by decide +kernel
theorem dX5_findPaint_19 : decode cX5_findPaint 19 = .ok (.iconst 0, 1) := by decide +kernel
theorem dX5_findPaint_20 : decode cX5_findPaint 20 = .ok (.istore 5, 2) := by decide +kernel
theorem dX5_findPaint_22 : decode cX5_findPaint 22 = .ok (.iload 5, 2) := by decide +kernel
theorem dX5_findPaint_24 : decode cX5_findPaint 24 = .ok (.bipush 14, 2) := by decide +kernel
theorem dX5_findPaint_26 : decode cX5_findPaint 26 = .ok (.if_icmp .ge 25, 3) := by decide +kernel
theorem dX5_findPaint_29 : decode cX5_findPaint 29 = .ok (.aload_n 0, 1) := by decide +kernel
theorem dX5_findPaint_30 : decode cX5_findPaint 30 = .ok (.getfield 33, 3) := by decide +kernel
theorem dX5_findPaint_33 : decode cX5_findPaint 33 = .ok (.iload 5, 2) := by decide +kernel
theorem dX5_findPaint_35 : decode cX5_findPaint 35 = .ok (.iconst 0, 1) := by decide +kernel
theorem dX5_findPaint_36 : decode cX5_findPaint 36 = .ok (.iastore, 1) := by decide +kernel
theorem dX5_findPaint_37 : decode cX5_findPaint 37 = .ok (.aload_n 0, 1) := by decide +kernel
theorem dX5_findPaint_38 : decode cX5_findPaint 38 = .ok (.getfield 36, 3) := by decide +kernel
theorem dX5_findPaint_41 : decode cX5_findPaint 41 = .ok (.iload 5, 2) := by decide +kernel
theorem dX5_findPaint_43 : decode cX5_findPaint 43 = .ok (.iconst 0, 1) := by decide +kernel
theorem dX5_findPaint_44 : decode cX5_findPaint 44 = .ok (.iastore, 1) := by decide +kernel
theorem dX5_findPaint_45 : decode cX5_findPaint 45 = .ok (.iinc 5 1, 3) := by decide +kernel
theorem dX5_findPaint_48 : decode cX5_findPaint 48 = .ok (.goto (-26), 3) := by decide +kernel
theorem dX5_findPaint_51 : decode cX5_findPaint 51 = .ok (.iconst 1, 1) := by decide +kernel
theorem dX5_findPaint_52 : decode cX5_findPaint 52 = .ok (.istore 5, 2) := by decide +kernel
theorem dX5_findPaint_54 : decode cX5_findPaint 54 = .ok (.iload 5, 2) := by decide +kernel
theorem dX5_findPaint_56 : decode cX5_findPaint 56 = .ok (.ifCond .eq 170, 3) := by decide +kernel
theorem dX5_findPaint_59 : decode cX5_findPaint 59 = .ok (.aload_n 0, 1) := by decide +kernel
theorem dX5_findPaint_60 : decode cX5_findPaint 60 = .ok (.iload_n 1, 1) := by decide +kernel
theorem dX5_findPaint_61 : decode cX5_findPaint 61 = .ok (.invokevirtual 132, 3) := by decide +kernel
theorem dX5_findPaint_64 : decode cX5_findPaint 64 = .ok (.istore 6, 2) := by decide +kernel
theorem dX5_findPaint_66 : decode cX5_findPaint 66 = .ok (.iload 6, 2) := by decide +kernel
theorem dX5_findPaint_68 : decode cX5_findPaint 68 = .ok (.aload_n 0, 1) := by decide +kernel
theorem dX5_findPaint_69 : decode cX5_findPaint 69 = .ok (.getfield 142, 3) := by decide +kernel
theorem dX5_findPaint_72 : decode cX5_findPaint 72 = .ok (.if_icmp .le 39, 3) := by decide +kernel
theorem dX5_findPaint_75 : decode cX5_findPaint 75 = .ok (.aload_n 0, 1) := by decide +kernel
theorem dX5_findPaint_76 : decode cX5_findPaint 76 = .ok (.iload 6, 2) := by decide +kernel
theorem dX5_findPaint_78 : decode cX5_findPaint 78 = .ok (.putfield 142, 3) := by decide +kernel
theorem dX5_findPaint_81 : decode cX5_findPaint 81 = .ok (.iconst 0, 1) := by decide +kernel
theorem dX5_findPaint_82 : decode cX5_findPaint 82 = .ok (.istore 7, 2) := by decide +kernel
theorem dX5_findPaint_84 : decode cX5_findPaint 84 = .ok (.iload 7, 2) := by decide +kernel
theorem dX5_findPaint_86 : decode cX5_findPaint 86 = .ok (.bipush 14, 2) := by decide +kernel
theorem dX5_findPaint_88 : decode cX5_findPaint 88 = .ok (.if_icmp .ge 23, 3) := by decide +kernel
theorem dX5_findPaint_91 : decode cX5_findPaint 91 = .ok (.aload_n 0, 1) := by decide +kernel
theorem dX5_findPaint_92 : decode cX5_findPaint 92 = .ok (.getfield 36, 3) := by decide +kernel
theorem dX5_findPaint_95 : decode cX5_findPaint 95 = .ok (.iload 7, 2) := by decide +kernel
theorem dX5_findPaint_97 : decode cX5_findPaint 97 = .ok (.aload_n 0, 1) := by decide +kernel
theorem dX5_findPaint_98 : decode cX5_findPaint 98 = .ok (.getfield 33, 3) := by decide +kernel
theorem dX5_findPaint_101 : decode cX5_findPaint 101 = .ok (.iload 7, 2) := by decide +kernel
theorem dX5_findPaint_103 : decode cX5_findPaint 103 = .ok (.iaload, 1) := by decide +kernel
theorem dX5_findPaint_104 : decode cX5_findPaint 104 = .ok (.iastore, 1) := by decide +kernel
theorem dX5_findPaint_105 : decode cX5_findPaint 105 = .ok (.iinc 7 1, 3) := by decide +kernel
theorem dX5_findPaint_108 : decode cX5_findPaint 108 = .ok (.goto (-24), 3) := by decide +kernel
theorem dX5_findPaint_111 : decode cX5_findPaint 111 = .ok (.iload_n 3, 1) := by decide +kernel
theorem dX5_findPaint_112 : decode cX5_findPaint 112 = .ok (.iconst 1, 1) := by decide +kernel
theorem dX5_findPaint_113 : decode cX5_findPaint 113 = .ok (.isub, 1) := by decide +kernel
theorem dX5_findPaint_114 : decode cX5_findPaint 114 = .ok (.istore 7, 2) := by decide +kernel
theorem dX5_findPaint_116 : decode cX5_findPaint 116 = .ok (.iconst 0, 1) := by decide +kernel
theorem dX5_findPaint_117 : decode cX5_findPaint 117 = .ok (.istore 8, 2) := by decide +kernel
theorem dX5_findPaint_119 : decode cX5_findPaint 119 = .ok (.iload 7, 2) := by decide +kernel
theorem dX5_findPaint_121 : decode cX5_findPaint 121 = .ok (.ifCond .lt 98, 3) := by decide +kernel
theorem dX5_findPaint_124 : decode cX5_findPaint 124 = .ok (.iload 8, 2) := by decide +kernel
theorem dX5_findPaint_126 : decode cX5_findPaint 126 = .ok (.ifCond .ne 93, 3) := by decide +kernel
theorem dX5_findPaint_129 : decode cX5_findPaint 129 = .ok (.iload 4, 2) := by decide +kernel
theorem dX5_findPaint_131 : decode cX5_findPaint 131 = .ok (.ifCond .le 47, 3) := by decide +kernel
theorem dX5_findPaint_134 : decode cX5_findPaint 134 = .ok (.aload_n 0, 1) := by decide +kernel
theorem dX5_findPaint_135 : decode cX5_findPaint 135 = .ok (.getfield 27, 3) := by decide +kernel
theorem dX5_findPaint_138 : decode cX5_findPaint 138 = .ok (.iconst 2, 1) := by decide +kernel
theorem dX5_findPaint_139 : decode cX5_findPaint 139 = .ok (.iload 7, 2) := by decide +kernel
theorem dX5_findPaint_141 : decode cX5_findPaint 141 = .ok (.imul, 1) := by decide +kernel
theorem dX5_findPaint_142 : decode cX5_findPaint 142 = .ok (.iconst 1, 1) := by decide +kernel
theorem dX5_findPaint_143 : decode cX5_findPaint 143 = .ok (.iadd, 1) := by decide +kernel
theorem dX5_findPaint_144 : decode cX5_findPaint 144 = .ok (.iload_n 1, 1) := by decide +kernel
theorem dX5_findPaint_145 : decode cX5_findPaint 145 = .ok (.isub, 1) := by decide +kernel
theorem dX5_findPaint_146 : decode cX5_findPaint 146 = .ok (.iaload, 1) := by decide +kernel
theorem dX5_findPaint_147 : decode cX5_findPaint 147 = .ok (.ifCond .le 31, 3) := by decide +kernel
theorem dX5_findPaint_150 : decode cX5_findPaint 150 = .ok (.aload_n 0, 1) := by decide +kernel
theorem dX5_findPaint_151 : decode cX5_findPaint 151 = .ok (.iload 7, 2) := by decide +kernel
theorem dX5_findPaint_153 : decode cX5_findPaint 153 = .ok (.iload_n 1, 1) := by decide +kernel
theorem dX5_findPaint_154 : decode cX5_findPaint 154 = .ok (.iconst 1, 1) := by decide +kernel
theorem dX5_findPaint_155 : decode cX5_findPaint 155 = .ok (.invokevirtual 146, 3) := by decide +kernel
theorem dX5_findPaint_158 : decode cX5_findPaint 158 = .ok (.aload_n 0, 1) := by decide +kernel
theorem dX5_findPaint_159 : decode cX5_findPaint 159 = .ok (.getfield 33, 3) := by decide +kernel
theorem dX5_findPaint_162 : decode cX5_findPaint 162 = .ok (.iload 7, 2) := by decide +kernel
theorem dX5_findPaint_164 : decode cX5_findPaint 164 = .ok (.dup2, 1) := by decide +kernel
theorem dX5_findPaint_165 : decode cX5_findPaint 165 = .ok (.iaload, 1) := by decide +kernel
theorem dX5_findPaint_166 : decode cX5_findPaint 166 = .ok (.iconst 1, 1) := by decide +kernel
theorem dX5_findPaint_167 : decode cX5_findPaint 167 = .ok (.iadd, 1) := by decide +kernel
theorem dX5_findPaint_168 : decode cX5_findPaint 168 = .ok (.iastore, 1) := by decide +kernel
theorem dX5_findPaint_169 : decode cX5_findPaint 169 = .ok (.iinc 4 (-1), 3) := by decide +kernel
theorem dX5_findPaint_172 : decode cX5_findPaint 172 = .ok (.iconst 1, 1) := by decide +kernel
theorem dX5_findPaint_173 : decode cX5_findPaint 173 = .ok (.istore 8, 2) := by decide +kernel
theorem dX5_findPaint_175 : decode cX5_findPaint 175 = .ok (.goto (-56), 3) := by decide +kernel
theorem dX5_findPaint_178 : decode cX5_findPaint 178 = .ok (.aload_n 0, 1) := by decide +kernel
theorem dX5_findPaint_179 : decode cX5_findPaint 179 = .ok (.iload 7, 2) := by decide +kernel
theorem dX5_findPaint_181 : decode cX5_findPaint 181 = .ok (.iload_n 1, 1) := by decide +kernel
theorem dX5_findPaint_182 : decode cX5_findPaint 182 = .ok (.aload_n 0, 1) := by decide +kernel
theorem dX5_findPaint_183 : decode cX5_findPaint 183 = .ok (.getfield 33, 3) := by decide +kernel
theorem dX5_findPaint_186 : decode cX5_findPaint 186 = .ok (.iload 7, 2) := by decide +kernel
theorem dX5_findPaint_188 : decode cX5_findPaint 188 = .ok (.iaload, 1) := by decide +kernel
theorem dX5_findPaint_189 : decode cX5_findPaint 189 = .ok (.ineg, 1) := by decide +kernel
theorem dX5_findPaint_190 : decode cX5_findPaint 190 = .ok (.invokevirtual 146, 3) := by decide +kernel
theorem dX5_findPaint_193 : decode cX5_findPaint 193 = .ok (.iload 4, 2) := by decide +kernel
theorem dX5_findPaint_195 : decode cX5_findPaint 195 = .ok (.aload_n 0, 1) := by decide +kernel
theorem dX5_findPaint_196 : decode cX5_findPaint 196 = .ok (.getfield 33, 3) := by decide +kernel
theorem dX5_findPaint_199 : decode cX5_findPaint 199 = .ok (.iload 7, 2) := by decide +kernel
theorem dX5_findPaint_201 : decode cX5_findPaint 201 = .ok (.iaload, 1) := by decide +kernel
theorem dX5_findPaint_202 : decode cX5_findPaint 202 = .ok (.iadd, 1) := by decide +kernel
theorem dX5_findPaint_203 : decode cX5_findPaint 203 = .ok (.istore 4, 2) := by decide +kernel
theorem dX5_findPaint_205 : decode cX5_findPaint 205 = .ok (.aload_n 0, 1) := by decide +kernel
theorem dX5_findPaint_206 : decode cX5_findPaint 206 = .ok (.getfield 33, 3) := by decide +kernel
theorem dX5_findPaint_209 : decode cX5_findPaint 209 = .ok (.iload 7, 2) := by decide +kernel
theorem dX5_findPaint_211 : decode cX5_findPaint 211 = .ok (.iconst 0, 1) := by decide +kernel
theorem dX5_findPaint_212 : decode cX5_findPaint 212 = .ok (.iastore, 1) := by decide +kernel
theorem dX5_findPaint_213 : decode cX5_findPaint 213 = .ok (.iinc 7 (-1), 3) := by decide +kernel
theorem dX5_findPaint_216 : decode cX5_findPaint 216 = .ok (.goto (-97), 3) := by decide +kernel
theorem dX5_findPaint_219 : decode cX5_findPaint 219 = .ok (.iload 8, 2) := by decide +kernel
theorem dX5_findPaint_221 : decode cX5_findPaint 221 = .ok (.istore 5, 2) := by decide +kernel
theorem dX5_findPaint_223 : decode cX5_findPaint 223 = .ok (.goto (-169), 3) := by decide +kernel
theorem dX5_findPaint_226 : decode cX5_findPaint 226 = .ok (.return_, 1) := by decide +kernel
theorem dX5_paint_0 : decode cX5_paint 0 = .ok (.iload_n 1, 1) := by decide +kernel
theorem dX5_paint_1 : decode cX5_paint 1 = .ok (.i2l, 1) := by decide +kernel
theorem dX5_paint_2 : decode cX5_paint 2 = .ok (.lconst 0, 1) := by decide +kernel
theorem dX5_paint_3 : decode cX5_paint 3 = .ok (.lconst 1, 1) := by decide +kernel
theorem dX5_paint_4 : decode cX5_paint 4 = .ok (.invokestatic 58, 3) := by decide +kernel
theorem dX5_paint_7 : decode cX5_paint 7 = .ok (.ifCond .eq 15, 3) := by decide +kernel
theorem dX5_paint_10 : decode cX5_paint 10 = .ok (.iload_n 2, 1) := by decide +kernel
theorem dX5_paint_11 : decode cX5_paint 11 = .ok (.i2l, 1) := by decide +kernel
theorem dX5_paint_12 : decode cX5_paint 12 = .ok (.lconst 0, 1) := by decide +kernel
theorem dX5_paint_13 : decode cX5_paint 13 = .ok (.ldc2_w 150, 3) := by decide +kernel
theorem dX5_paint_16 : decode cX5_paint 16 = .ok (.invokestatic 58, 3) := by decide +kernel
theorem dX5_paint_19 : decode cX5_paint 19 = .ok (.ifCond .ne 10, 3) := by decide +kernel
theorem dX5_paint_22 : decode cX5_paint 22 = .ok (.aload_n 0, 1) := by decide +kernel
theorem dX5_paint_23 : decode cX5_paint 23 = .ok (.bipush (-2), 2) := by decide +kernel
theorem dX5_paint_25 : decode cX5_paint 25 = .ok (.invokevirtual 73, 3) := by decide +kernel
theorem dX5_paint_28 : decode cX5_paint 28 = .ok (.ireturn, 1) := by decide +kernel
theorem dX5_paint_29 : decode cX5_paint 29 = .ok (.aload_n 0, 1) := by decide +kernel
theorem dX5_paint_30 : decode cX5_paint 30 = .ok (.invokevirtual 62, 3) := by decide +kernel
theorem dX5_paint_33 : decode cX5_paint 33 = .ok (.ifCond .ne 10, 3) := by decide +kernel
theorem dX5_paint_36 : decode cX5_paint 36 = .ok (.aload_n 0, 1) := by decide +kernel
theorem dX5_paint_37 : decode cX5_paint 37 = .ok (.bipush (-3), 2) := by decide +kernel
theorem dX5_paint_39 : decode cX5_paint 39 = .ok (.invokevirtual 90, 3) := by decide +kernel
theorem dX5_paint_42 : decode cX5_paint 42 = .ok (.ireturn, 1) := by decide +kernel
theorem dX5_paint_43 : decode cX5_paint 43 = .ok (.aload_n 0, 1) := by decide +kernel
theorem dX5_paint_44 : decode cX5_paint 44 = .ok (.iload_n 1, 1) := by decide +kernel
theorem dX5_paint_45 : decode cX5_paint 45 = .ok (.iload_n 2, 1) := by decide +kernel
theorem dX5_paint_46 : decode cX5_paint 46 = .ok (.invokevirtual 152, 3) := by decide +kernel
theorem dX5_paint_49 : decode cX5_paint 49 = .ok (.aload_n 0, 1) := by decide +kernel
theorem dX5_paint_50 : decode cX5_paint 50 = .ok (.aload_n 0, 1) := by decide +kernel
theorem dX5_paint_51 : decode cX5_paint 51 = .ok (.getfield 142, 3) := by decide +kernel
theorem dX5_paint_54 : decode cX5_paint 54 = .ok (.i2l, 1) := by decide +kernel
theorem dX5_paint_55 : decode cX5_paint 55 = .ok (.aload_n 0, 1) := by decide +kernel
theorem dX5_paint_56 : decode cX5_paint 56 = .ok (.invokevirtual 135, 3) := by decide +kernel
theorem dX5_paint_59 : decode cX5_paint 59 = .ok (.i2l, 1) := by decide +kernel
theorem dX5_paint_60 : decode cX5_paint 60 = .ok (.invokevirtual 138, 3) := by decide +kernel
theorem dX5_paint_63 : decode cX5_paint 63 = .ok (.ireturn, 1) := by decide +kernel
theorem dX5_brush_0 : decode cX5_brush 0 = .ok (.iload_n 1, 1) := by decide +kernel
theorem dX5_brush_1 : decode cX5_brush 1 = .ok (.i2l, 1) := by decide +kernel
theorem dX5_brush_2 : decode cX5_brush 2 = .ok (.lconst 0, 1) := by decide +kernel
theorem dX5_brush_3 : decode cX5_brush 3 = .ok (.lconst 1, 1) := by decide +kernel
theorem dX5_brush_4 : decode cX5_brush 4 = .ok (.invokestatic 58, 3) := by decide +kernel
theorem dX5_brush_7 : decode cX5_brush 7 = .ok (.ifCond .eq 34, 3) := by decide +kernel
theorem dX5_brush_10 : decode cX5_brush 10 = .ok (.iload_n 2, 1) := by decide +kernel
theorem dX5_brush_11 : decode cX5_brush 11 = .ok (.i2l, 1) := by decide +kernel
theorem dX5_brush_12 : decode cX5_brush 12 = .ok (.lconst 0, 1) := by decide +kernel
theorem dX5_brush_13 : decode cX5_brush 13 = .ok (.ldc2_w 150, 3) := by decide +kernel
theorem dX5_brush_16 : decode cX5_brush 16 = .ok (.invokestatic 58, 3) := by decide +kernel
theorem dX5_brush_19 : decode cX5_brush 19 = .ok (.ifCond .eq 22, 3) := by decide +kernel
theorem dX5_brush_22 : decode cX5_brush 22 = .ok (.aload_n 0, 1) := by decide +kernel
theorem dX5_brush_23 : decode cX5_brush 23 = .ok (.iload_n 3, 1) := by decide +kernel
theorem dX5_brush_24 : decode cX5_brush 24 = .ok (.invokevirtual 93, 3) := by decide +kernel
theorem dX5_brush_27 : decode cX5_brush 27 = .ok (.ifCond .eq 14, 3) := by decide +kernel
theorem dX5_brush_30 : decode cX5_brush 30 = .ok (.iload 4, 2) := by decide +kernel
theorem dX5_brush_32 : decode cX5_brush 32 = .ok (.i2l, 1) := by decide +kernel
theorem dX5_brush_33 : decode cX5_brush 33 = .ok (.lconst 0, 1) := by decide +kernel
theorem dX5_brush_34 : decode cX5_brush 34 = .ok (.lconst 1, 1) := by decide +kernel
theorem dX5_brush_35 : decode cX5_brush 35 = .ok (.invokestatic 58, 3) := by decide +kernel
theorem dX5_brush_38 : decode cX5_brush 38 = .ok (.ifCond .ne 10, 3) := by decide +kernel
theorem dX5_brush_41 : decode cX5_brush 41 = .ok (.aload_n 0, 1) := by decide +kernel
theorem dX5_brush_42 : decode cX5_brush 42 = .ok (.bipush (-2), 2) := by decide +kernel
theorem dX5_brush_44 : decode cX5_brush 44 = .ok (.invokevirtual 73, 3) := by decide +kernel
theorem dX5_brush_47 : decode cX5_brush 47 = .ok (.ireturn, 1) := by decide +kernel
theorem dX5_brush_48 : decode cX5_brush 48 = .ok (.aload_n 0, 1) := by decide +kernel
theorem dX5_brush_49 : decode cX5_brush 49 = .ok (.invokevirtual 62, 3) := by decide +kernel
theorem dX5_brush_52 : decode cX5_brush 52 = .ok (.ifCond .ne 10, 3) := by decide +kernel
theorem dX5_brush_55 : decode cX5_brush 55 = .ok (.aload_n 0, 1) := by decide +kernel
theorem dX5_brush_56 : decode cX5_brush 56 = .ok (.bipush (-3), 2) := by decide +kernel
theorem dX5_brush_58 : decode cX5_brush 58 = .ok (.invokevirtual 90, 3) := by decide +kernel
theorem dX5_brush_61 : decode cX5_brush 61 = .ok (.ireturn, 1) := by decide +kernel
theorem dX5_brush_62 : decode cX5_brush 62 = .ok (.aload_n 0, 1) := by decide +kernel
theorem dX5_brush_63 : decode cX5_brush 63 = .ok (.iload_n 1, 1) := by decide +kernel
theorem dX5_brush_64 : decode cX5_brush 64 = .ok (.iload_n 2, 1) := by decide +kernel
theorem dX5_brush_65 : decode cX5_brush 65 = .ok (.invokevirtual 152, 3) := by decide +kernel
theorem dX5_brush_68 : decode cX5_brush 68 = .ok (.aload_n 0, 1) := by decide +kernel
theorem dX5_brush_69 : decode cX5_brush 69 = .ok (.getfield 36, 3) := by decide +kernel
theorem dX5_brush_72 : decode cX5_brush 72 = .ok (.iconst 2, 1) := by decide +kernel
theorem dX5_brush_73 : decode cX5_brush 73 = .ok (.iload_n 3, 1) := by decide +kernel
theorem dX5_brush_74 : decode cX5_brush 74 = .ok (.imul, 1) := by decide +kernel
theorem dX5_brush_75 : decode cX5_brush 75 = .ok (.iload 4, 2) := by decide +kernel
theorem dX5_brush_77 : decode cX5_brush 77 = .ok (.iadd, 1) := by decide +kernel
theorem dX5_brush_78 : decode cX5_brush 78 = .ok (.iaload, 1) := by decide +kernel
theorem dX5_brush_79 : decode cX5_brush 79 = .ok (.ireturn, 1) := by decide +kernel
theorem dX5_leastOver_0 : decode cX5_leastOver 0 = .ok (.aload_n 0, 1) := by decide +kernel
theorem dX5_leastOver_1 : decode cX5_leastOver 1 = .ok (.iconst 0, 1) := by decide +kernel
theorem dX5_leastOver_2 : decode cX5_leastOver 2 = .ok (.invokevirtual 132, 3) := by decide +kernel
theorem dX5_leastOver_5 : decode cX5_leastOver 5 = .ok (.aload_n 0, 1) := by decide +kernel
theorem dX5_leastOver_6 : decode cX5_leastOver 6 = .ok (.iconst 1, 1) := by decide +kernel
theorem dX5_leastOver_7 : decode cX5_leastOver 7 = .ok (.invokevirtual 132, 3) := by decide +kernel
theorem dX5_leastOver_10 : decode cX5_leastOver 10 = .ok (.isub, 1) := by decide +kernel
theorem dX5_leastOver_11 : decode cX5_leastOver 11 = .ok (.istore_n 1, 1) := by decide +kernel
theorem dX5_leastOver_12 : decode cX5_leastOver 12 = .ok (.iconst 0, 1) := by decide +kernel
theorem dX5_leastOver_13 : decode cX5_leastOver 13 = .ok (.istore_n 2, 1) := by decide +kernel
theorem dX5_leastOver_14 : decode cX5_leastOver 14 = .ok (.iload_n 2, 1) := by decide +kernel
theorem dX5_leastOver_15 : decode cX5_leastOver 15 = .ok (.iconst 2, 1) := by decide +kernel
theorem dX5_leastOver_16 : decode cX5_leastOver 16 = .ok (.aload_n 0, 1) := by decide +kernel
theorem dX5_leastOver_17 : decode cX5_leastOver 17 = .ok (.invokevirtual 54, 3) := by decide +kernel
theorem dX5_leastOver_20 : decode cX5_leastOver 20 = .ok (.imul, 1) := by decide +kernel
theorem dX5_leastOver_21 : decode cX5_leastOver 21 = .ok (.if_icmp .ge 57, 3) := by decide +kernel
theorem dX5_leastOver_24 : decode cX5_leastOver 24 = .ok (.aload_n 0, 1) := by decide +kernel
theorem dX5_leastOver_25 : decode cX5_leastOver 25 = .ok (.getfield 27, 3) := by decide +kernel
theorem dX5_leastOver_28 : decode cX5_leastOver 28 = .ok (.iconst 2, 1) := by decide +kernel
theorem dX5_leastOver_29 : decode cX5_leastOver 29 = .ok (.iload_n 2, 1) := by decide +kernel
theorem dX5_leastOver_30 : decode cX5_leastOver 30 = .ok (.imul, 1) := by decide +kernel
theorem dX5_leastOver_31 : decode cX5_leastOver 31 = .ok (.iaload, 1) := by decide +kernel
theorem dX5_leastOver_32 : decode cX5_leastOver 32 = .ok (.ifCond .le 40, 3) := by decide +kernel
theorem dX5_leastOver_35 : decode cX5_leastOver 35 = .ok (.aload_n 0, 1) := by decide +kernel
theorem dX5_leastOver_36 : decode cX5_leastOver 36 = .ok (.iload_n 2, 1) := by decide +kernel
theorem dX5_leastOver_37 : decode cX5_leastOver 37 = .ok (.iconst 1, 1) := by decide +kernel
theorem dX5_leastOver_38 : decode cX5_leastOver 38 = .ok (.iconst 1, 1) := by decide +kernel
theorem dX5_leastOver_39 : decode cX5_leastOver 39 = .ok (.invokevirtual 146, 3) := by decide +kernel
theorem dX5_leastOver_42 : decode cX5_leastOver 42 = .ok (.aload_n 0, 1) := by decide +kernel
theorem dX5_leastOver_43 : decode cX5_leastOver 43 = .ok (.iconst 0, 1) := by decide +kernel
theorem dX5_leastOver_44 : decode cX5_leastOver 44 = .ok (.invokevirtual 132, 3) := by decide +kernel
theorem dX5_leastOver_47 : decode cX5_leastOver 47 = .ok (.aload_n 0, 1) := by decide +kernel
theorem dX5_leastOver_48 : decode cX5_leastOver 48 = .ok (.iconst 1, 1) := by decide +kernel
theorem dX5_leastOver_49 : decode cX5_leastOver 49 = .ok (.invokevirtual 132, 3) := by decide +kernel
theorem dX5_leastOver_52 : decode cX5_leastOver 52 = .ok (.isub, 1) := by decide +kernel
theorem dX5_leastOver_53 : decode cX5_leastOver 53 = .ok (.istore_n 3, 1) := by decide +kernel
theorem dX5_leastOver_54 : decode cX5_leastOver 54 = .ok (.iload_n 3, 1) := by decide +kernel
theorem dX5_leastOver_55 : decode cX5_leastOver 55 = .ok (.iload_n 1, 1) := by decide +kernel
theorem dX5_leastOver_56 : decode cX5_leastOver 56 = .ok (.if_icmp .ge 7, 3) := by decide +kernel
theorem dX5_leastOver_59 : decode cX5_leastOver 59 = .ok (.iload_n 3, 1) := by decide +kernel
theorem dX5_leastOver_60 : decode cX5_leastOver 60 = .ok (.goto 4, 3) := by decide +kernel
theorem dX5_leastOver_63 : decode cX5_leastOver 63 = .ok (.iload_n 1, 1) := by decide +kernel
theorem dX5_leastOver_64 : decode cX5_leastOver 64 = .ok (.istore_n 1, 1) := by decide +kernel
theorem dX5_leastOver_65 : decode cX5_leastOver 65 = .ok (.aload_n 0, 1) := by decide +kernel
theorem dX5_leastOver_66 : decode cX5_leastOver 66 = .ok (.iload_n 2, 1) := by decide +kernel
theorem dX5_leastOver_67 : decode cX5_leastOver 67 = .ok (.iconst 1, 1) := by decide +kernel
theorem dX5_leastOver_68 : decode cX5_leastOver 68 = .ok (.iconst (-1), 1) := by decide +kernel
theorem dX5_leastOver_69 : decode cX5_leastOver 69 = .ok (.invokevirtual 146, 3) := by decide +kernel
theorem dX5_leastOver_72 : decode cX5_leastOver 72 = .ok (.iinc 2 1, 3) := by decide +kernel
theorem dX5_leastOver_75 : decode cX5_leastOver 75 = .ok (.goto (-61), 3) := by decide +kernel
theorem dX5_leastOver_78 : decode cX5_leastOver 78 = .ok (.iload_n 1, 1) := by decide +kernel
theorem dX5_leastOver_79 : decode cX5_leastOver 79 = .ok (.ireturn, 1) := by decide +kernel
theorem dX5_against_0 : decode cX5_against 0 = .ok (.aload_n 0, 1) := by decide +kernel
theorem dX5_against_1 : decode cX5_against 1 = .ok (.invokevirtual 62, 3) := by decide +kernel
theorem dX5_against_4 : decode cX5_against 4 = .ok (.ifCond .ne 10, 3) := by decide +kernel
theorem dX5_against_7 : decode cX5_against 7 = .ok (.aload_n 0, 1) := by decide +kernel
theorem dX5_against_8 : decode cX5_against 8 = .ok (.bipush (-20), 2) := by decide +kernel
theorem dX5_against_10 : decode cX5_against 10 = .ok (.invokevirtual 90, 3) := by decide +kernel
theorem dX5_against_13 : decode cX5_against 13 = .ok (.ireturn, 1) := by decide +kernel
theorem dX5_against_14 : decode cX5_against 14 = .ok (.aload_n 0, 1) := by decide +kernel
theorem dX5_against_15 : decode cX5_against 15 = .ok (.invokevirtual 121, 3) := by decide +kernel
theorem dX5_against_18 : decode cX5_against 18 = .ok (.iconst (-1), 1) := by decide +kernel
theorem dX5_against_19 : decode cX5_against 19 = .ok (.istore_n 1, 1) := by decide +kernel
theorem dX5_against_20 : decode cX5_against 20 = .ok (.iconst 0, 1) := by decide +kernel
theorem dX5_against_21 : decode cX5_against 21 = .ok (.istore_n 2, 1) := by decide +kernel
theorem dX5_against_22 : decode cX5_against 22 = .ok (.iconst 0, 1) := by decide +kernel
theorem dX5_against_23 : decode cX5_against 23 = .ok (.istore_n 3, 1) := by decide +kernel
theorem dX5_against_24 : decode cX5_against 24 = .ok (.iconst 0, 1) := by decide +kernel
theorem dX5_against_25 : decode cX5_against 25 = .ok (.istore 4, 2) := by decide +kernel
theorem dX5_against_27 : decode cX5_against 27 = .ok (.iload 4, 2) := by decide +kernel
theorem dX5_against_29 : decode cX5_against 29 = .ok (.iconst 2, 1) := by decide +kernel
theorem dX5_against_30 : decode cX5_against 30 = .ok (.aload_n 0, 1) := by decide +kernel
theorem dX5_against_31 : decode cX5_against 31 = .ok (.invokevirtual 54, 3) := by decide +kernel
theorem dX5_against_34 : decode cX5_against 34 = .ok (.imul, 1) := by decide +kernel
theorem dX5_against_35 : decode cX5_against 35 = .ok (.if_icmp .ge 63, 3) := by decide +kernel
theorem dX5_against_38 : decode cX5_against 38 = .ok (.aload_n 0, 1) := by decide +kernel
theorem dX5_against_39 : decode cX5_against 39 = .ok (.getfield 27, 3) := by decide +kernel
theorem dX5_against_42 : decode cX5_against 42 = .ok (.iconst 2, 1) := by decide +kernel
theorem dX5_against_43 : decode cX5_against 43 = .ok (.iload 4, 2) := by decide +kernel
theorem dX5_against_45 : decode cX5_against 45 = .ok (.imul, 1) := by decide +kernel
theorem dX5_against_46 : decode cX5_against 46 = .ok (.iconst 1, 1) := by decide +kernel
theorem dX5_against_47 : decode cX5_against 47 = .ok (.iadd, 1) := by decide +kernel
theorem dX5_against_48 : decode cX5_against 48 = .ok (.iaload, 1) := by decide +kernel
theorem dX5_against_49 : decode cX5_against 49 = .ok (.ifCond .le 43, 3) := by decide +kernel
end
section
theorem dX5_against_52 : decode cX5_against 52 = .ok (.aload_n 0, 1) := by decide +kernel
theorem dX5_against_53 : decode cX5_against 53 = .ok (.iload 4, 2) := by decide +kernel
theorem dX5_against_55 : decode cX5_against 55 = .ok (.iconst 0, 1) := by decide +kernel
theorem dX5_against_56 : decode cX5_against 56 = .ok (.iconst 1, 1) := by decide +kernel
theorem dX5_against_57 : decode cX5_against 57 = .ok (.invokevirtual 146, 3) := by decide +kernel
theorem dX5_against_60 : decode cX5_against 60 = .ok (.aload_n 0, 1) := by decide +kernel
theorem dX5_against_61 : decode cX5_against 61 = .ok (.invokevirtual 156, 3) := by decide +kernel
theorem dX5_against_64 : decode cX5_against 64 = .ok (.istore 5, 2) := by decide +kernel
theorem dX5_against_66 : decode cX5_against 66 = .ok (.aload_n 0, 1) := by decide +kernel
theorem dX5_against_67 : decode cX5_against 67 = .ok (.iload 4, 2) := by decide +kernel
theorem dX5_against_69 : decode cX5_against 69 = .ok (.iconst 0, 1) := by decide +kernel
theorem dX5_against_70 : decode cX5_against 70 = .ok (.iconst (-1), 1) := by decide +kernel
theorem dX5_against_71 : decode cX5_against 71 = .ok (.invokevirtual 146, 3) := by decide +kernel
theorem dX5_against_74 : decode cX5_against 74 = .ok (.iload_n 3, 1) := by decide +kernel
theorem dX5_against_75 : decode cX5_against 75 = .ok (.ifCond .eq 9, 3) := by decide +kernel
theorem dX5_against_78 : decode cX5_against 78 = .ok (.iload 5, 2) := by decide +kernel
theorem dX5_against_80 : decode cX5_against 80 = .ok (.iload_n 2, 1) := by decide +kernel
theorem dX5_against_81 : decode cX5_against 81 = .ok (.if_icmp .le 11, 3) := by decide +kernel
theorem dX5_against_84 : decode cX5_against 84 = .ok (.iload 4, 2) := by decide +kernel
theorem dX5_against_86 : decode cX5_against 86 = .ok (.istore_n 1, 1) := by decide +kernel
theorem dX5_against_87 : decode cX5_against 87 = .ok (.iload 5, 2) := by decide +kernel
theorem dX5_against_89 : decode cX5_against 89 = .ok (.istore_n 2, 1) := by decide +kernel
theorem dX5_against_90 : decode cX5_against 90 = .ok (.iconst 1, 1) := by decide +kernel
theorem dX5_against_91 : decode cX5_against 91 = .ok (.istore_n 3, 1) := by decide +kernel
theorem dX5_against_92 : decode cX5_against 92 = .ok (.iinc 4 1, 3) := by decide +kernel
theorem dX5_against_95 : decode cX5_against 95 = .ok (.goto (-68), 3) := by decide +kernel
theorem dX5_against_98 : decode cX5_against 98 = .ok (.aload_n 0, 1) := by decide +kernel
theorem dX5_against_99 : decode cX5_against 99 = .ok (.invokevirtual 156, 3) := by decide +kernel
theorem dX5_against_102 : decode cX5_against 102 = .ok (.istore 4, 2) := by decide +kernel
theorem dX5_against_104 : decode cX5_against 104 = .ok (.iload_n 3, 1) := by decide +kernel
theorem dX5_against_105 : decode cX5_against 105 = .ok (.ifCond .eq 9, 3) := by decide +kernel
theorem dX5_against_108 : decode cX5_against 108 = .ok (.iload 4, 2) := by decide +kernel
theorem dX5_against_110 : decode cX5_against 110 = .ok (.iload_n 2, 1) := by decide +kernel
theorem dX5_against_111 : decode cX5_against 111 = .ok (.if_icmp .le 8, 3) := by decide +kernel
theorem dX5_against_114 : decode cX5_against 114 = .ok (.iconst (-1), 1) := by decide +kernel
theorem dX5_against_115 : decode cX5_against 115 = .ok (.istore_n 1, 1) := by decide +kernel
theorem dX5_against_116 : decode cX5_against 116 = .ok (.iload 4, 2) := by decide +kernel
theorem dX5_against_118 : decode cX5_against 118 = .ok (.istore_n 2, 1) := by decide +kernel
theorem dX5_against_119 : decode cX5_against 119 = .ok (.aload_n 0, 1) := by decide +kernel
theorem dX5_against_120 : decode cX5_against 120 = .ok (.iload_n 2, 1) := by decide +kernel
theorem dX5_against_121 : decode cX5_against 121 = .ok (.i2l, 1) := by decide +kernel
theorem dX5_against_122 : decode cX5_against 122 = .ok (.aload_n 0, 1) := by decide +kernel
theorem dX5_against_123 : decode cX5_against 123 = .ok (.invokevirtual 135, 3) := by decide +kernel
theorem dX5_against_126 : decode cX5_against 126 = .ok (.i2l, 1) := by decide +kernel
theorem dX5_against_127 : decode cX5_against 127 = .ok (.invokevirtual 138, 3) := by decide +kernel
theorem dX5_against_130 : decode cX5_against 130 = .ok (.istore 5, 2) := by decide +kernel
theorem dX5_against_132 : decode cX5_against 132 = .ok (.iload_n 1, 1) := by decide +kernel
theorem dX5_against_133 : decode cX5_against 133 = .ok (.ireturn, 1) := by decide +kernel
theorem dX5_findDecided_0 : decode cX5_findDecided 0 = .ok (.aload_n 0, 1) := by decide +kernel
theorem dX5_findDecided_1 : decode cX5_findDecided 1 = .ok (.invokevirtual 121, 3) := by decide +kernel
theorem dX5_findDecided_4 : decode cX5_findDecided 4 = .ok (.iconst 0, 1) := by decide +kernel
theorem dX5_findDecided_5 : decode cX5_findDecided 5 = .ok (.istore_n 2, 1) := by decide +kernel
theorem dX5_findDecided_6 : decode cX5_findDecided 6 = .ok (.iload_n 2, 1) := by decide +kernel
theorem dX5_findDecided_7 : decode cX5_findDecided 7 = .ok (.aload_n 0, 1) := by decide +kernel
theorem dX5_findDecided_8 : decode cX5_findDecided 8 = .ok (.invokevirtual 62, 3) := by decide +kernel
theorem dX5_findDecided_11 : decode cX5_findDecided 11 = .ok (.if_icmp .ge 20, 3) := by decide +kernel
theorem dX5_findDecided_14 : decode cX5_findDecided 14 = .ok (.aload_n 0, 1) := by decide +kernel
theorem dX5_findDecided_15 : decode cX5_findDecided 15 = .ok (.getfield 36, 3) := by decide +kernel
theorem dX5_findDecided_18 : decode cX5_findDecided 18 = .ok (.iload_n 2, 1) := by decide +kernel
theorem dX5_findDecided_19 : decode cX5_findDecided 19 = .ok (.aload_n 0, 1) := by decide +kernel
theorem dX5_findDecided_20 : decode cX5_findDecided 20 = .ok (.iload_n 2, 1) := by decide +kernel
theorem dX5_findDecided_21 : decode cX5_findDecided 21 = .ok (.invokevirtual 127, 3) := by decide +kernel
theorem dX5_findDecided_24 : decode cX5_findDecided 24 = .ok (.iastore, 1) := by decide +kernel
theorem dX5_findDecided_25 : decode cX5_findDecided 25 = .ok (.iinc 2 1, 3) := by decide +kernel
theorem dX5_findDecided_28 : decode cX5_findDecided 28 = .ok (.goto (-22), 3) := by decide +kernel
theorem dX5_findDecided_31 : decode cX5_findDecided 31 = .ok (.iconst 0, 1) := by decide +kernel
theorem dX5_findDecided_32 : decode cX5_findDecided 32 = .ok (.istore_n 2, 1) := by decide +kernel
theorem dX5_findDecided_33 : decode cX5_findDecided 33 = .ok (.iload_n 2, 1) := by decide +kernel
theorem dX5_findDecided_34 : decode cX5_findDecided 34 = .ok (.iconst 4, 1) := by decide +kernel
theorem dX5_findDecided_35 : decode cX5_findDecided 35 = .ok (.if_icmp .ge 20, 3) := by decide +kernel
theorem dX5_findDecided_38 : decode cX5_findDecided 38 = .ok (.aload_n 0, 1) := by decide +kernel
theorem dX5_findDecided_39 : decode cX5_findDecided 39 = .ok (.getfield 27, 3) := by decide +kernel
theorem dX5_findDecided_42 : decode cX5_findDecided 42 = .ok (.iconst 4, 1) := by decide +kernel
theorem dX5_findDecided_43 : decode cX5_findDecided 43 = .ok (.iload_n 1, 1) := by decide +kernel
theorem dX5_findDecided_44 : decode cX5_findDecided 44 = .ok (.imul, 1) := by decide +kernel
theorem dX5_findDecided_45 : decode cX5_findDecided 45 = .ok (.iload_n 2, 1) := by decide +kernel
theorem dX5_findDecided_46 : decode cX5_findDecided 46 = .ok (.iadd, 1) := by decide +kernel
theorem dX5_findDecided_47 : decode cX5_findDecided 47 = .ok (.iconst 0, 1) := by decide +kernel
theorem dX5_findDecided_48 : decode cX5_findDecided 48 = .ok (.iastore, 1) := by decide +kernel
theorem dX5_findDecided_49 : decode cX5_findDecided 49 = .ok (.iinc 2 1, 3) := by decide +kernel
theorem dX5_findDecided_52 : decode cX5_findDecided 52 = .ok (.goto (-19), 3) := by decide +kernel
theorem dX5_findDecided_55 : decode cX5_findDecided 55 = .ok (.iconst 0, 1) := by decide +kernel
theorem dX5_findDecided_56 : decode cX5_findDecided 56 = .ok (.istore_n 2, 1) := by decide +kernel
theorem dX5_findDecided_57 : decode cX5_findDecided 57 = .ok (.iconst 0, 1) := by decide +kernel
theorem dX5_findDecided_58 : decode cX5_findDecided 58 = .ok (.istore_n 3, 1) := by decide +kernel
theorem dX5_findDecided_59 : decode cX5_findDecided 59 = .ok (.iload_n 3, 1) := by decide +kernel
theorem dX5_findDecided_60 : decode cX5_findDecided 60 = .ok (.aload_n 0, 1) := by decide +kernel
theorem dX5_findDecided_61 : decode cX5_findDecided 61 = .ok (.invokevirtual 62, 3) := by decide +kernel
theorem dX5_findDecided_64 : decode cX5_findDecided 64 = .ok (.if_icmp .ge 51, 3) := by decide +kernel
theorem dX5_findDecided_67 : decode cX5_findDecided 67 = .ok (.aload_n 0, 1) := by decide +kernel
theorem dX5_findDecided_68 : decode cX5_findDecided 68 = .ok (.getfield 39, 3) := by decide +kernel
theorem dX5_findDecided_71 : decode cX5_findDecided 71 = .ok (.iload_n 3, 1) := by decide +kernel
theorem dX5_findDecided_72 : decode cX5_findDecided 72 = .ok (.aload_n 0, 1) := by decide +kernel
theorem dX5_findDecided_73 : decode cX5_findDecided 73 = .ok (.iload_n 3, 1) := by decide +kernel
theorem dX5_findDecided_74 : decode cX5_findDecided 74 = .ok (.invokevirtual 127, 3) := by decide +kernel
theorem dX5_findDecided_77 : decode cX5_findDecided 77 = .ok (.aload_n 0, 1) := by decide +kernel
theorem dX5_findDecided_78 : decode cX5_findDecided 78 = .ok (.getfield 36, 3) := by decide +kernel
theorem dX5_findDecided_81 : decode cX5_findDecided 81 = .ok (.iload_n 3, 1) := by decide +kernel
theorem dX5_findDecided_82 : decode cX5_findDecided 82 = .ok (.iaload, 1) := by decide +kernel
theorem dX5_findDecided_83 : decode cX5_findDecided 83 = .ok (.if_icmp .eq 7, 3) := by decide +kernel
theorem dX5_findDecided_86 : decode cX5_findDecided 86 = .ok (.iconst 1, 1) := by decide +kernel
theorem dX5_findDecided_87 : decode cX5_findDecided 87 = .ok (.goto 4, 3) := by decide +kernel
theorem dX5_findDecided_90 : decode cX5_findDecided 90 = .ok (.iconst 0, 1) := by decide +kernel
theorem dX5_findDecided_91 : decode cX5_findDecided 91 = .ok (.bastore, 1) := by decide +kernel
theorem dX5_findDecided_92 : decode cX5_findDecided 92 = .ok (.iload_n 2, 1) := by decide +kernel
theorem dX5_findDecided_93 : decode cX5_findDecided 93 = .ok (.aload_n 0, 1) := by decide +kernel
theorem dX5_findDecided_94 : decode cX5_findDecided 94 = .ok (.getfield 39, 3) := by decide +kernel
theorem dX5_findDecided_97 : decode cX5_findDecided 97 = .ok (.iload_n 3, 1) := by decide +kernel
theorem dX5_findDecided_98 : decode cX5_findDecided 98 = .ok (.baload, 1) := by decide +kernel
theorem dX5_findDecided_99 : decode cX5_findDecided 99 = .ok (.ifCond .eq 7, 3) := by decide +kernel
theorem dX5_findDecided_102 : decode cX5_findDecided 102 = .ok (.iconst 1, 1) := by decide +kernel
theorem dX5_findDecided_103 : decode cX5_findDecided 103 = .ok (.goto 4, 3) := by decide +kernel
theorem dX5_findDecided_106 : decode cX5_findDecided 106 = .ok (.iconst 0, 1) := by decide +kernel
theorem dX5_findDecided_107 : decode cX5_findDecided 107 = .ok (.iadd, 1) := by decide +kernel
theorem dX5_findDecided_108 : decode cX5_findDecided 108 = .ok (.istore_n 2, 1) := by decide +kernel
theorem dX5_findDecided_109 : decode cX5_findDecided 109 = .ok (.iinc 3 1, 3) := by decide +kernel
theorem dX5_findDecided_112 : decode cX5_findDecided 112 = .ok (.goto (-53), 3) := by decide +kernel
theorem dX5_findDecided_115 : decode cX5_findDecided 115 = .ok (.iload_n 2, 1) := by decide +kernel
theorem dX5_findDecided_116 : decode cX5_findDecided 116 = .ok (.ireturn, 1) := by decide +kernel
theorem dX5_decides_0 : decode cX5_decides 0 = .ok (.aload_n 0, 1) := by decide +kernel
theorem dX5_decides_1 : decode cX5_decides 1 = .ok (.iload_n 1, 1) := by decide +kernel
theorem dX5_decides_2 : decode cX5_decides 2 = .ok (.invokevirtual 93, 3) := by decide +kernel
theorem dX5_decides_5 : decode cX5_decides 5 = .ok (.ifCond .eq 11, 3) := by decide +kernel
theorem dX5_decides_8 : decode cX5_decides 8 = .ok (.aload_n 0, 1) := by decide +kernel
theorem dX5_decides_9 : decode cX5_decides 9 = .ok (.iload_n 1, 1) := by decide +kernel
theorem dX5_decides_10 : decode cX5_decides 10 = .ok (.invokevirtual 159, 3) := by decide +kernel
theorem dX5_decides_13 : decode cX5_decides 13 = .ok (.goto 9, 3) := by decide +kernel
theorem dX5_decides_16 : decode cX5_decides 16 = .ok (.aload_n 0, 1) := by decide +kernel
theorem dX5_decides_17 : decode cX5_decides 17 = .ok (.bipush (-2), 2) := by decide +kernel
theorem dX5_decides_19 : decode cX5_decides 19 = .ok (.invokevirtual 73, 3) := by decide +kernel
theorem dX5_decides_22 : decode cX5_decides 22 = .ok (.ireturn, 1) := by decide +kernel
theorem dX5_power_0 : decode cX5_power 0 = .ok (.aload_n 0, 1) := by decide +kernel
theorem dX5_power_1 : decode cX5_power 1 = .ok (.iload_n 1, 1) := by decide +kernel
theorem dX5_power_2 : decode cX5_power 2 = .ok (.invokevirtual 93, 3) := by decide +kernel
theorem dX5_power_5 : decode cX5_power 5 = .ok (.ifCond .ne 10, 3) := by decide +kernel
theorem dX5_power_8 : decode cX5_power 8 = .ok (.aload_n 0, 1) := by decide +kernel
theorem dX5_power_9 : decode cX5_power 9 = .ok (.bipush (-2), 2) := by decide +kernel
theorem dX5_power_11 : decode cX5_power 11 = .ok (.invokevirtual 73, 3) := by decide +kernel
theorem dX5_power_14 : decode cX5_power 14 = .ok (.ireturn, 1) := by decide +kernel
theorem dX5_power_15 : decode cX5_power 15 = .ok (.aload_n 0, 1) := by decide +kernel
theorem dX5_power_16 : decode cX5_power 16 = .ok (.invokevirtual 62, 3) := by decide +kernel
theorem dX5_power_19 : decode cX5_power 19 = .ok (.ifCond .ne 10, 3) := by decide +kernel
theorem dX5_power_22 : decode cX5_power 22 = .ok (.aload_n 0, 1) := by decide +kernel
theorem dX5_power_23 : decode cX5_power 23 = .ok (.bipush (-3), 2) := by decide +kernel
theorem dX5_power_25 : decode cX5_power 25 = .ok (.invokevirtual 90, 3) := by decide +kernel
theorem dX5_power_28 : decode cX5_power 28 = .ok (.ireturn, 1) := by decide +kernel
theorem dX5_power_29 : decode cX5_power 29 = .ok (.aload_n 0, 1) := by decide +kernel
theorem dX5_power_30 : decode cX5_power 30 = .ok (.iload_n 1, 1) := by decide +kernel
theorem dX5_power_31 : decode cX5_power 31 = .ok (.invokevirtual 159, 3) := by decide +kernel
theorem dX5_power_34 : decode cX5_power 34 = .ok (.istore_n 2, 1) := by decide +kernel
theorem dX5_power_35 : decode cX5_power 35 = .ok (.iconst 0, 1) := by decide +kernel
theorem dX5_power_36 : decode cX5_power 36 = .ok (.istore_n 3, 1) := by decide +kernel
theorem dX5_power_37 : decode cX5_power 37 = .ok (.iconst 0, 1) := by decide +kernel
theorem dX5_power_38 : decode cX5_power 38 = .ok (.istore 4, 2) := by decide +kernel
theorem dX5_power_40 : decode cX5_power 40 = .ok (.iload 4, 2) := by decide +kernel
theorem dX5_power_42 : decode cX5_power 42 = .ok (.aload_n 0, 1) := by decide +kernel
theorem dX5_power_43 : decode cX5_power 43 = .ok (.invokevirtual 62, 3) := by decide +kernel
theorem dX5_power_46 : decode cX5_power 46 = .ok (.if_icmp .ge 33, 3) := by decide +kernel
theorem dX5_power_49 : decode cX5_power 49 = .ok (.iload_n 3, 1) := by decide +kernel
theorem dX5_power_50 : decode cX5_power 50 = .ok (.aload_n 0, 1) := by decide +kernel
theorem dX5_power_51 : decode cX5_power 51 = .ok (.getfield 39, 3) := by decide +kernel
theorem dX5_power_54 : decode cX5_power 54 = .ok (.iload 4, 2) := by decide +kernel
theorem dX5_power_56 : decode cX5_power 56 = .ok (.baload, 1) := by decide +kernel
theorem dX5_power_57 : decode cX5_power 57 = .ok (.ifCond .eq 13, 3) := by decide +kernel
theorem dX5_power_60 : decode cX5_power 60 = .ok (.aload_n 0, 1) := by decide +kernel
theorem dX5_power_61 : decode cX5_power 61 = .ok (.iload 4, 2) := by decide +kernel
theorem dX5_power_63 : decode cX5_power 63 = .ok (.iconst 4, 1) := by decide +kernel
theorem dX5_power_64 : decode cX5_power 64 = .ok (.invokevirtual 97, 3) := by decide +kernel
theorem dX5_power_67 : decode cX5_power 67 = .ok (.goto 4, 3) := by decide +kernel
theorem dX5_power_70 : decode cX5_power 70 = .ok (.iconst 0, 1) := by decide +kernel
theorem dX5_power_71 : decode cX5_power 71 = .ok (.iadd, 1) := by decide +kernel
theorem dX5_power_72 : decode cX5_power 72 = .ok (.istore_n 3, 1) := by decide +kernel
theorem dX5_power_73 : decode cX5_power 73 = .ok (.iinc 4 1, 3) := by decide +kernel
theorem dX5_power_76 : decode cX5_power 76 = .ok (.goto (-36), 3) := by decide +kernel
theorem dX5_power_79 : decode cX5_power 79 = .ok (.aload_n 0, 1) := by decide +kernel
theorem dX5_power_80 : decode cX5_power 80 = .ok (.iload_n 3, 1) := by decide +kernel
theorem dX5_power_81 : decode cX5_power 81 = .ok (.i2l, 1) := by decide +kernel
theorem dX5_power_82 : decode cX5_power 82 = .ok (.aload_n 0, 1) := by decide +kernel
theorem dX5_power_83 : decode cX5_power 83 = .ok (.invokevirtual 135, 3) := by decide +kernel
theorem dX5_power_86 : decode cX5_power 86 = .ok (.i2l, 1) := by decide +kernel
theorem dX5_power_87 : decode cX5_power 87 = .ok (.invokevirtual 138, 3) := by decide +kernel
theorem dX5_power_90 : decode cX5_power 90 = .ok (.ireturn, 1) := by decide +kernel
theorem dX5_shield_0 : decode cX5_shield 0 = .ok (.iload_n 1, 1) := by decide +kernel
theorem dX5_shield_1 : decode cX5_shield 1 = .ok (.i2l, 1) := by decide +kernel
theorem dX5_shield_2 : decode cX5_shield 2 = .ok (.lconst 0, 1) := by decide +kernel
theorem dX5_shield_3 : decode cX5_shield 3 = .ok (.lconst 1, 1) := by decide +kernel
theorem dX5_shield_4 : decode cX5_shield 4 = .ok (.invokestatic 58, 3) := by decide +kernel
theorem dX5_shield_7 : decode cX5_shield 7 = .ok (.ifCond .ne 10, 3) := by decide +kernel
theorem dX5_shield_10 : decode cX5_shield 10 = .ok (.aload_n 0, 1) := by decide +kernel
theorem dX5_shield_11 : decode cX5_shield 11 = .ok (.bipush (-2), 2) := by decide +kernel
theorem dX5_shield_13 : decode cX5_shield 13 = .ok (.invokevirtual 73, 3) := by decide +kernel
theorem dX5_shield_16 : decode cX5_shield 16 = .ok (.ireturn, 1) := by decide +kernel
theorem dX5_shield_17 : decode cX5_shield 17 = .ok (.aload_n 0, 1) := by decide +kernel
theorem dX5_shield_18 : decode cX5_shield 18 = .ok (.invokevirtual 62, 3) := by decide +kernel
theorem dX5_shield_21 : decode cX5_shield 21 = .ok (.ifCond .ne 10, 3) := by decide +kernel
theorem dX5_shield_24 : decode cX5_shield 24 = .ok (.aload_n 0, 1) := by decide +kernel
theorem dX5_shield_25 : decode cX5_shield 25 = .ok (.bipush (-3), 2) := by decide +kernel
theorem dX5_shield_27 : decode cX5_shield 27 = .ok (.invokevirtual 90, 3) := by decide +kernel
theorem dX5_shield_30 : decode cX5_shield 30 = .ok (.ireturn, 1) := by decide +kernel
theorem dX5_shield_31 : decode cX5_shield 31 = .ok (.aload_n 0, 1) := by decide +kernel
theorem dX5_shield_32 : decode cX5_shield 32 = .ok (.invokevirtual 121, 3) := by decide +kernel
theorem dX5_shield_35 : decode cX5_shield 35 = .ok (.iconst (-1), 1) := by decide +kernel
theorem dX5_shield_36 : decode cX5_shield 36 = .ok (.istore_n 2, 1) := by decide +kernel
theorem dX5_shield_37 : decode cX5_shield 37 = .ok (.iconst (-1), 1) := by decide +kernel
theorem dX5_shield_38 : decode cX5_shield 38 = .ok (.istore_n 3, 1) := by decide +kernel
theorem dX5_shield_39 : decode cX5_shield 39 = .ok (.iconst 0, 1) := by decide +kernel
theorem dX5_shield_40 : decode cX5_shield 40 = .ok (.istore 4, 2) := by decide +kernel
theorem dX5_shield_42 : decode cX5_shield 42 = .ok (.iload 4, 2) := by decide +kernel
theorem dX5_shield_44 : decode cX5_shield 44 = .ok (.bipush 7, 2) := by decide +kernel
theorem dX5_shield_46 : decode cX5_shield 46 = .ok (.if_icmp .ge 77, 3) := by decide +kernel
theorem dX5_shield_49 : decode cX5_shield 49 = .ok (.aload_n 0, 1) := by decide +kernel
theorem dX5_shield_50 : decode cX5_shield 50 = .ok (.getfield 7, 3) := by decide +kernel
theorem dX5_shield_53 : decode cX5_shield 53 = .ok (.bipush 86, 2) := by decide +kernel
theorem dX5_shield_55 : decode cX5_shield 55 = .ok (.iload 4, 2) := by decide +kernel
theorem dX5_shield_57 : decode cX5_shield 57 = .ok (.iadd, 1) := by decide +kernel
theorem dX5_shield_58 : decode cX5_shield 58 = .ok (.iaload, 1) := by decide +kernel
theorem dX5_shield_59 : decode cX5_shield 59 = .ok (.ifCond .ne 58, 3) := by decide +kernel
theorem dX5_shield_62 : decode cX5_shield 62 = .ok (.aload_n 0, 1) := by decide +kernel
theorem dX5_shield_63 : decode cX5_shield 63 = .ok (.getfield 7, 3) := by decide +kernel
theorem dX5_shield_66 : decode cX5_shield 66 = .ok (.bipush 86, 2) := by decide +kernel
theorem dX5_shield_68 : decode cX5_shield 68 = .ok (.iload 4, 2) := by decide +kernel
theorem dX5_shield_70 : decode cX5_shield 70 = .ok (.iadd, 1) := by decide +kernel
theorem dX5_shield_71 : decode cX5_shield 71 = .ok (.iconst 1, 1) := by decide +kernel
theorem dX5_shield_72 : decode cX5_shield 72 = .ok (.iastore, 1) := by decide +kernel
theorem dX5_shield_73 : decode cX5_shield 73 = .ok (.aload_n 0, 1) := by decide +kernel
theorem dX5_shield_74 : decode cX5_shield 74 = .ok (.iload_n 1, 1) := by decide +kernel
theorem dX5_shield_75 : decode cX5_shield 75 = .ok (.invokevirtual 132, 3) := by decide +kernel
theorem dX5_shield_78 : decode cX5_shield 78 = .ok (.istore 5, 2) := by decide +kernel
theorem dX5_shield_80 : decode cX5_shield 80 = .ok (.aload_n 0, 1) := by decide +kernel
theorem dX5_shield_81 : decode cX5_shield 81 = .ok (.getfield 7, 3) := by decide +kernel
theorem dX5_shield_84 : decode cX5_shield 84 = .ok (.bipush 86, 2) := by decide +kernel
theorem dX5_shield_86 : decode cX5_shield 86 = .ok (.iload 4, 2) := by decide +kernel
theorem dX5_shield_88 : decode cX5_shield 88 = .ok (.iadd, 1) := by decide +kernel
theorem dX5_shield_89 : decode cX5_shield 89 = .ok (.iconst 0, 1) := by decide +kernel
theorem dX5_shield_90 : decode cX5_shield 90 = .ok (.iastore, 1) := by decide +kernel
theorem dX5_shield_91 : decode cX5_shield 91 = .ok (.iload 5, 2) := by decide +kernel
theorem dX5_shield_93 : decode cX5_shield 93 = .ok (.iload_n 3, 1) := by decide +kernel
theorem dX5_shield_94 : decode cX5_shield 94 = .ok (.if_icmp .le 8, 3) := by decide +kernel
theorem dX5_shield_97 : decode cX5_shield 97 = .ok (.iload 4, 2) := by decide +kernel
theorem dX5_shield_99 : decode cX5_shield 99 = .ok (.goto 4, 3) := by decide +kernel
theorem dX5_shield_102 : decode cX5_shield 102 = .ok (.iload_n 2, 1) := by decide +kernel
theorem dX5_shield_103 : decode cX5_shield 103 = .ok (.istore_n 2, 1) := by decide +kernel
theorem dX5_shield_104 : decode cX5_shield 104 = .ok (.iload 5, 2) := by decide +kernel
theorem dX5_shield_106 : decode cX5_shield 106 = .ok (.iload_n 3, 1) := by decide +kernel
theorem dX5_shield_107 : decode cX5_shield 107 = .ok (.if_icmp .le 8, 3) := by decide +kernel
theorem dX5_shield_110 : decode cX5_shield 110 = .ok (.iload 5, 2) := by decide +kernel
theorem dX5_shield_112 : decode cX5_shield 112 = .ok (.goto 4, 3) := by decide +kernel
theorem dX5_shield_115 : decode cX5_shield 115 = .ok (.iload_n 3, 1) := by decide +kernel
theorem dX5_shield_116 : decode cX5_shield 116 = .ok (.istore_n 3, 1) := by decide +kernel
theorem dX5_shield_117 : decode cX5_shield 117 = .ok (.iinc 4 1, 3) := by decide +kernel
theorem dX5_shield_120 : decode cX5_shield 120 = .ok (.goto (-78), 3) := by decide +kernel
theorem dX5_shield_123 : decode cX5_shield 123 = .ok (.iload_n 2, 1) := by decide +kernel
theorem dX5_shield_124 : decode cX5_shield 124 = .ok (.iconst (-1), 1) := by decide +kernel
theorem dX5_shield_125 : decode cX5_shield 125 = .ok (.if_icmp .ne 7, 3) := by decide +kernel
theorem dX5_shield_128 : decode cX5_shield 128 = .ok (.iconst 0, 1) := by decide +kernel
theorem dX5_shield_129 : decode cX5_shield 129 = .ok (.goto 14, 3) := by decide +kernel
theorem dX5_shield_132 : decode cX5_shield 132 = .ok (.aload_n 0, 1) := by decide +kernel
theorem dX5_shield_133 : decode cX5_shield 133 = .ok (.iload_n 3, 1) := by decide +kernel
theorem dX5_shield_134 : decode cX5_shield 134 = .ok (.i2l, 1) := by decide +kernel
theorem dX5_shield_135 : decode cX5_shield 135 = .ok (.aload_n 0, 1) := by decide +kernel
theorem dX5_shield_136 : decode cX5_shield 136 = .ok (.invokevirtual 135, 3) := by decide +kernel
theorem dX5_shield_139 : decode cX5_shield 139 = .ok (.i2l, 1) := by decide +kernel
theorem dX5_shield_140 : decode cX5_shield 140 = .ok (.invokevirtual 138, 3) := by decide +kernel
theorem dX5_shield_143 : decode cX5_shield 143 = .ok (.istore 4, 2) := by decide +kernel
theorem dX5_shield_145 : decode cX5_shield 145 = .ok (.iload_n 2, 1) := by decide +kernel
theorem dX5_shield_146 : decode cX5_shield 146 = .ok (.ireturn, 1) := by decide +kernel
theorem dX5_shards_0 : decode cX5_shards 0 = .ok (.iload_n 2, 1) := by decide +kernel
theorem dX5_shards_1 : decode cX5_shards 1 = .ok (.iconst (-1), 1) := by decide +kernel
theorem dX5_shards_2 : decode cX5_shards 2 = .ok (.if_icmp .ne 12, 3) := by decide +kernel
theorem dX5_shards_5 : decode cX5_shards 5 = .ok (.iload_n 3, 1) := by decide +kernel
theorem dX5_shards_6 : decode cX5_shards 6 = .ok (.iconst (-1), 1) := by decide +kernel
theorem dX5_shards_7 : decode cX5_shards 7 = .ok (.if_icmp .ne 7, 3) := by decide +kernel
theorem dX5_shards_10 : decode cX5_shards 10 = .ok (.iconst 1, 1) := by decide +kernel
theorem dX5_shards_11 : decode cX5_shards 11 = .ok (.goto 4, 3) := by decide +kernel
theorem dX5_shards_14 : decode cX5_shards 14 = .ok (.iconst 0, 1) := by decide +kernel
theorem dX5_shards_15 : decode cX5_shards 15 = .ok (.istore 4, 2) := by decide +kernel
theorem dX5_shards_17 : decode cX5_shards 17 = .ok (.aload_n 0, 1) := by decide +kernel
theorem dX5_shards_18 : decode cX5_shards 18 = .ok (.iload_n 1, 1) := by decide +kernel
theorem dX5_shards_19 : decode cX5_shards 19 = .ok (.invokevirtual 93, 3) := by decide +kernel
theorem dX5_shards_22 : decode cX5_shards 22 = .ok (.ifCond .eq 32, 3) := by decide +kernel
theorem dX5_shards_25 : decode cX5_shards 25 = .ok (.iload 4, 2) := by decide +kernel
theorem dX5_shards_27 : decode cX5_shards 27 = .ok (.ifCond .ne 34, 3) := by decide +kernel
theorem dX5_shards_30 : decode cX5_shards 30 = .ok (.iload_n 2, 1) := by decide +kernel
theorem dX5_shards_31 : decode cX5_shards 31 = .ok (.i2l, 1) := by decide +kernel
theorem dX5_shards_32 : decode cX5_shards 32 = .ok (.lconst 0, 1) := by decide +kernel
theorem dX5_shards_33 : decode cX5_shards 33 = .ok (.ldc2_w 162, 3) := by decide +kernel
theorem dX5_shards_36 : decode cX5_shards 36 = .ok (.invokestatic 58, 3) := by decide +kernel
theorem dX5_shards_39 : decode cX5_shards 39 = .ok (.ifCond .eq 15, 3) := by decide +kernel
theorem dX5_shards_42 : decode cX5_shards 42 = .ok (.iload_n 3, 1) := by decide +kernel
theorem dX5_shards_43 : decode cX5_shards 43 = .ok (.i2l, 1) := by decide +kernel
theorem dX5_shards_44 : decode cX5_shards 44 = .ok (.lconst 0, 1) := by decide +kernel
theorem dX5_shards_45 : decode cX5_shards 45 = .ok (.ldc2_w 162, 3) := by decide +kernel
theorem dX5_shards_48 : decode cX5_shards 48 = .ok (.invokestatic 58, 3) := by decide +kernel
theorem dX5_shards_51 : decode cX5_shards 51 = .ok (.ifCond .ne 10, 3) := by decide +kernel
theorem dX5_shards_54 : decode cX5_shards 54 = .ok (.aload_n 0, 1) := by decide +kernel
theorem dX5_shards_55 : decode cX5_shards 55 = .ok (.bipush (-2), 2) := by decide +kernel
theorem dX5_shards_57 : decode cX5_shards 57 = .ok (.invokevirtual 73, 3) := by decide +kernel
theorem dX5_shards_60 : decode cX5_shards 60 = .ok (.ireturn, 1) := by decide +kernel
theorem dX5_shards_61 : decode cX5_shards 61 = .ok (.aload_n 0, 1) := by decide +kernel
theorem dX5_shards_62 : decode cX5_shards 62 = .ok (.getfield 7, 3) := by decide +kernel
theorem dX5_shards_65 : decode cX5_shards 65 = .ok (.iconst 0, 1) := by decide +kernel
theorem dX5_shards_66 : decode cX5_shards 66 = .ok (.bipush 8, 2) := by decide +kernel
theorem dX5_shards_68 : decode cX5_shards 68 = .ok (.iload_n 1, 1) := by decide +kernel
theorem dX5_shards_69 : decode cX5_shards 69 = .ok (.imul, 1) := by decide +kernel
theorem dX5_shards_70 : decode cX5_shards 70 = .ok (.iadd, 1) := by decide +kernel
theorem dX5_shards_71 : decode cX5_shards 71 = .ok (.bipush 6, 2) := by decide +kernel
theorem dX5_shards_73 : decode cX5_shards 73 = .ok (.iadd, 1) := by decide +kernel
theorem dX5_shards_74 : decode cX5_shards 74 = .ok (.iload_n 2, 1) := by decide +kernel
theorem dX5_shards_75 : decode cX5_shards 75 = .ok (.iastore, 1) := by decide +kernel
theorem dX5_shards_76 : decode cX5_shards 76 = .ok (.aload_n 0, 1) := by decide +kernel
theorem dX5_shards_77 : decode cX5_shards 77 = .ok (.getfield 7, 3) := by decide +kernel
theorem dX5_shards_80 : decode cX5_shards 80 = .ok (.iconst 0, 1) := by decide +kernel
theorem dX5_shards_81 : decode cX5_shards 81 = .ok (.bipush 8, 2) := by decide +kernel
theorem dX5_shards_83 : decode cX5_shards 83 = .ok (.iload_n 1, 1) := by decide +kernel
theorem dX5_shards_84 : decode cX5_shards 84 = .ok (.imul, 1) := by decide +kernel
theorem dX5_shards_85 : decode cX5_shards 85 = .ok (.iadd, 1) := by decide +kernel
theorem dX5_shards_86 : decode cX5_shards 86 = .ok (.bipush 6, 2) := by decide +kernel
theorem dX5_shards_88 : decode cX5_shards 88 = .ok (.iadd, 1) := by decide +kernel
theorem dX5_shards_89 : decode cX5_shards 89 = .ok (.iconst 1, 1) := by decide +kernel
theorem dX5_shards_90 : decode cX5_shards 90 = .ok (.iadd, 1) := by decide +kernel
theorem dX5_shards_91 : decode cX5_shards 91 = .ok (.iload_n 3, 1) := by decide +kernel
theorem dX5_shards_92 : decode cX5_shards 92 = .ok (.iastore, 1) := by decide +kernel
theorem dX5_shards_93 : decode cX5_shards 93 = .ok (.iconst 1, 1) := by decide +kernel
theorem dX5_shards_94 : decode cX5_shards 94 = .ok (.ireturn, 1) := by decide +kernel
theorem dX5_isTold_0 : decode cX5_isTold 0 = .ok (.aload_n 0, 1) := by decide +kernel
theorem dX5_isTold_1 : decode cX5_isTold 1 = .ok (.getfield 7, 3) := by decide +kernel
theorem dX5_isTold_4 : decode cX5_isTold 4 = .ok (.iconst 0, 1) := by decide +kernel
theorem dX5_isTold_5 : decode cX5_isTold 5 = .ok (.bipush 8, 2) := by decide +kernel
theorem dX5_isTold_7 : decode cX5_isTold 7 = .ok (.iload_n 1, 1) := by decide +kernel
theorem dX5_isTold_8 : decode cX5_isTold 8 = .ok (.imul, 1) := by decide +kernel
theorem dX5_isTold_9 : decode cX5_isTold 9 = .ok (.iadd, 1) := by decide +kernel
theorem dX5_isTold_10 : decode cX5_isTold 10 = .ok (.bipush 6, 2) := by decide +kernel
theorem dX5_isTold_12 : decode cX5_isTold 12 = .ok (.iadd, 1) := by decide +kernel
theorem dX5_isTold_13 : decode cX5_isTold 13 = .ok (.iaload, 1) := by decide +kernel
theorem dX5_isTold_14 : decode cX5_isTold 14 = .ok (.iconst (-1), 1) := by decide +kernel
theorem dX5_isTold_15 : decode cX5_isTold 15 = .ok (.if_icmp .eq 7, 3) := by decide +kernel
theorem dX5_isTold_18 : decode cX5_isTold 18 = .ok (.iconst 1, 1) := by decide +kernel
theorem dX5_isTold_19 : decode cX5_isTold 19 = .ok (.goto 4, 3) := by decide +kernel
theorem dX5_isTold_22 : decode cX5_isTold 22 = .ok (.iconst 0, 1) := by decide +kernel
theorem dX5_isTold_23 : decode cX5_isTold 23 = .ok (.ireturn, 1) := by decide +kernel
theorem dX5_breaksSo_0 : decode cX5_breaksSo 0 = .ok (.aload_n 0, 1) := by decide +kernel
theorem dX5_breaksSo_1 : decode cX5_breaksSo 1 = .ok (.iload_n 1, 1) := by decide +kernel
theorem dX5_breaksSo_2 : decode cX5_breaksSo 2 = .ok (.iload_n 2, 1) := by decide +kernel
theorem dX5_breaksSo_3 : decode cX5_breaksSo 3 = .ok (.iconst 0, 1) := by decide +kernel
theorem dX5_breaksSo_4 : decode cX5_breaksSo 4 = .ok (.invokevirtual 118, 3) := by decide +kernel
theorem dX5_breaksSo_7 : decode cX5_breaksSo 7 = .ok (.aload_n 0, 1) := by decide +kernel
theorem dX5_breaksSo_8 : decode cX5_breaksSo 8 = .ok (.getfield 7, 3) := by decide +kernel
theorem dX5_breaksSo_11 : decode cX5_breaksSo 11 = .ok (.iconst 0, 1) := by decide +kernel
theorem dX5_breaksSo_12 : decode cX5_breaksSo 12 = .ok (.bipush 8, 2) := by decide +kernel
theorem dX5_breaksSo_14 : decode cX5_breaksSo 14 = .ok (.iload_n 2, 1) := by decide +kernel
theorem dX5_breaksSo_15 : decode cX5_breaksSo 15 = .ok (.imul, 1) := by decide +kernel
theorem dX5_breaksSo_16 : decode cX5_breaksSo 16 = .ok (.iadd, 1) := by decide +kernel
theorem dX5_breaksSo_17 : decode cX5_breaksSo 17 = .ok (.bipush 6, 2) := by decide +kernel
theorem dX5_breaksSo_19 : decode cX5_breaksSo 19 = .ok (.iadd, 1) := by decide +kernel
theorem dX5_breaksSo_20 : decode cX5_breaksSo 20 = .ok (.iaload, 1) := by decide +kernel
theorem dX5_breaksSo_21 : decode cX5_breaksSo 21 = .ok (.if_icmp .ne 7, 3) := by decide +kernel
theorem dX5_breaksSo_24 : decode cX5_breaksSo 24 = .ok (.iconst 1, 1) := by decide +kernel
theorem dX5_breaksSo_25 : decode cX5_breaksSo 25 = .ok (.goto 4, 3) := by decide +kernel
theorem dX5_breaksSo_28 : decode cX5_breaksSo 28 = .ok (.iconst 0, 1) := by decide +kernel
theorem dX5_breaksSo_29 : decode cX5_breaksSo 29 = .ok (.istore_n 3, 1) := by decide +kernel
theorem dX5_breaksSo_30 : decode cX5_breaksSo 30 = .ok (.iload_n 3, 1) := by decide +kernel
theorem dX5_breaksSo_31 : decode cX5_breaksSo 31 = .ok (.ifCond .eq 33, 3) := by decide +kernel
theorem dX5_breaksSo_34 : decode cX5_breaksSo 34 = .ok (.aload_n 0, 1) := by decide +kernel
theorem dX5_breaksSo_35 : decode cX5_breaksSo 35 = .ok (.iload_n 1, 1) := by decide +kernel
theorem dX5_breaksSo_36 : decode cX5_breaksSo 36 = .ok (.iload_n 2, 1) := by decide +kernel
theorem dX5_breaksSo_37 : decode cX5_breaksSo 37 = .ok (.iconst 1, 1) := by decide +kernel
theorem dX5_breaksSo_38 : decode cX5_breaksSo 38 = .ok (.invokevirtual 118, 3) := by decide +kernel
theorem dX5_breaksSo_41 : decode cX5_breaksSo 41 = .ok (.aload_n 0, 1) := by decide +kernel
theorem dX5_breaksSo_42 : decode cX5_breaksSo 42 = .ok (.getfield 7, 3) := by decide +kernel
theorem dX5_breaksSo_45 : decode cX5_breaksSo 45 = .ok (.iconst 0, 1) := by decide +kernel
theorem dX5_breaksSo_46 : decode cX5_breaksSo 46 = .ok (.bipush 8, 2) := by decide +kernel
theorem dX5_breaksSo_48 : decode cX5_breaksSo 48 = .ok (.iload_n 2, 1) := by decide +kernel
theorem dX5_breaksSo_49 : decode cX5_breaksSo 49 = .ok (.imul, 1) := by decide +kernel
theorem dX5_breaksSo_50 : decode cX5_breaksSo 50 = .ok (.iadd, 1) := by decide +kernel
theorem dX5_breaksSo_51 : decode cX5_breaksSo 51 = .ok (.bipush 6, 2) := by decide +kernel
theorem dX5_breaksSo_53 : decode cX5_breaksSo 53 = .ok (.iadd, 1) := by decide +kernel
theorem dX5_breaksSo_54 : decode cX5_breaksSo 54 = .ok (.iconst 1, 1) := by decide +kernel
theorem dX5_breaksSo_55 : decode cX5_breaksSo 55 = .ok (.iadd, 1) := by decide +kernel
theorem dX5_breaksSo_56 : decode cX5_breaksSo 56 = .ok (.iaload, 1) := by decide +kernel
theorem dX5_breaksSo_57 : decode cX5_breaksSo 57 = .ok (.if_icmp .ne 7, 3) := by decide +kernel
theorem dX5_breaksSo_60 : decode cX5_breaksSo 60 = .ok (.iconst 1, 1) := by decide +kernel
theorem dX5_breaksSo_61 : decode cX5_breaksSo 61 = .ok (.goto 4, 3) := by decide +kernel
theorem dX5_breaksSo_64 : decode cX5_breaksSo 64 = .ok (.iconst 0, 1) := by decide +kernel
theorem dX5_breaksSo_65 : decode cX5_breaksSo 65 = .ok (.ireturn, 1) := by decide +kernel
theorem dX5_which_0 : decode cX5_which 0 = .ok (.iload_n 1, 1) := by decide +kernel
theorem dX5_which_1 : decode cX5_which 1 = .ok (.i2l, 1) := by decide +kernel
theorem dX5_which_2 : decode cX5_which 2 = .ok (.lconst 0, 1) := by decide +kernel
theorem dX5_which_3 : decode cX5_which 3 = .ok (.lconst 1, 1) := by decide +kernel
theorem dX5_which_4 : decode cX5_which 4 = .ok (.invokestatic 58, 3) := by decide +kernel
theorem dX5_which_7 : decode cX5_which 7 = .ok (.ifCond .ne 10, 3) := by decide +kernel
theorem dX5_which_10 : decode cX5_which 10 = .ok (.aload_n 0, 1) := by decide +kernel
theorem dX5_which_11 : decode cX5_which 11 = .ok (.bipush (-2), 2) := by decide +kernel
theorem dX5_which_13 : decode cX5_which 13 = .ok (.invokevirtual 73, 3) := by decide +kernel
theorem dX5_which_16 : decode cX5_which 16 = .ok (.ireturn, 1) := by decide +kernel
theorem dX5_which_17 : decode cX5_which 17 = .ok (.aload_n 0, 1) := by decide +kernel
theorem dX5_which_18 : decode cX5_which 18 = .ok (.invokevirtual 121, 3) := by decide +kernel
theorem dX5_which_21 : decode cX5_which 21 = .ok (.iconst 0, 1) := by decide +kernel
theorem dX5_which_22 : decode cX5_which 22 = .ok (.istore_n 2, 1) := by decide +kernel
theorem dX5_which_23 : decode cX5_which 23 = .ok (.iconst 0, 1) := by decide +kernel
theorem dX5_which_24 : decode cX5_which 24 = .ok (.istore_n 3, 1) := by decide +kernel
theorem dX5_which_25 : decode cX5_which 25 = .ok (.iconst 0, 1) := by decide +kernel
theorem dX5_which_26 : decode cX5_which 26 = .ok (.istore 4, 2) := by decide +kernel
theorem dX5_which_28 : decode cX5_which 28 = .ok (.iload 4, 2) := by decide +kernel
theorem dX5_which_30 : decode cX5_which 30 = .ok (.aload_n 0, 1) := by decide +kernel
theorem dX5_which_31 : decode cX5_which 31 = .ok (.invokevirtual 62, 3) := by decide +kernel
theorem dX5_which_34 : decode cX5_which 34 = .ok (.if_icmp .ge 78, 3) := by decide +kernel
theorem dX5_which_37 : decode cX5_which 37 = .ok (.iconst 1, 1) := by decide +kernel
theorem dX5_which_38 : decode cX5_which 38 = .ok (.istore 5, 2) := by decide +kernel
theorem dX5_which_40 : decode cX5_which 40 = .ok (.iconst 0, 1) := by decide +kernel
theorem dX5_which_41 : decode cX5_which 41 = .ok (.istore 6, 2) := by decide +kernel
theorem dX5_which_43 : decode cX5_which 43 = .ok (.iload 6, 2) := by decide +kernel
theorem dX5_which_45 : decode cX5_which 45 = .ok (.aload_n 0, 1) := by decide +kernel
theorem dX5_which_46 : decode cX5_which 46 = .ok (.invokevirtual 54, 3) := by decide +kernel
theorem dX5_which_49 : decode cX5_which 49 = .ok (.if_icmp .ge 41, 3) := by decide +kernel
theorem dX5_which_52 : decode cX5_which 52 = .ok (.iload 5, 2) := by decide +kernel
theorem dX5_which_54 : decode cX5_which 54 = .ok (.ifCond .eq 27, 3) := by decide +kernel
theorem dX5_which_57 : decode cX5_which 57 = .ok (.aload_n 0, 1) := by decide +kernel
theorem dX5_which_58 : decode cX5_which 58 = .ok (.iload 6, 2) := by decide +kernel
theorem dX5_which_60 : decode cX5_which 60 = .ok (.invokevirtual 164, 3) := by decide +kernel
theorem dX5_which_63 : decode cX5_which 63 = .ok (.ifCond .eq 14, 3) := by decide +kernel
theorem dX5_which_66 : decode cX5_which 66 = .ok (.aload_n 0, 1) := by decide +kernel
theorem dX5_which_67 : decode cX5_which 67 = .ok (.iload 4, 2) := by decide +kernel
theorem dX5_which_69 : decode cX5_which 69 = .ok (.iload 6, 2) := by decide +kernel
theorem dX5_which_71 : decode cX5_which 71 = .ok (.invokevirtual 167, 3) := by decide +kernel
theorem dX5_which_74 : decode cX5_which 74 = .ok (.ifCond .eq 7, 3) := by decide +kernel
theorem dX5_which_77 : decode cX5_which 77 = .ok (.iconst 1, 1) := by decide +kernel
theorem dX5_which_78 : decode cX5_which 78 = .ok (.goto 4, 3) := by decide +kernel
theorem dX5_which_81 : decode cX5_which 81 = .ok (.iconst 0, 1) := by decide +kernel
theorem dX5_which_82 : decode cX5_which 82 = .ok (.istore 5, 2) := by decide +kernel
theorem dX5_which_84 : decode cX5_which 84 = .ok (.iinc 6 1, 3) := by decide +kernel
theorem dX5_which_87 : decode cX5_which 87 = .ok (.goto (-44), 3) := by decide +kernel
theorem dX5_which_90 : decode cX5_which 90 = .ok (.iload_n 2, 1) := by decide +kernel
theorem dX5_which_91 : decode cX5_which 91 = .ok (.iload 5, 2) := by decide +kernel
theorem dX5_which_93 : decode cX5_which 93 = .ok (.ifCond .eq 10, 3) := by decide +kernel
theorem dX5_which_96 : decode cX5_which 96 = .ok (.iconst 1, 1) := by decide +kernel
theorem dX5_which_97 : decode cX5_which 97 = .ok (.iload 4, 2) := by decide +kernel
theorem dX5_which_99 : decode cX5_which 99 = .ok (.ishl, 1) := by decide +kernel
theorem dX5_which_100 : decode cX5_which 100 = .ok (.goto 4, 3) := by decide +kernel
theorem dX5_which_103 : decode cX5_which 103 = .ok (.iconst 0, 1) := by decide +kernel
theorem dX5_which_104 : decode cX5_which 104 = .ok (.ior, 1) := by decide +kernel
theorem dX5_which_105 : decode cX5_which 105 = .ok (.istore_n 2, 1) := by decide +kernel
theorem dX5_which_106 : decode cX5_which 106 = .ok (.iinc 4 1, 3) := by decide +kernel
theorem dX5_which_109 : decode cX5_which 109 = .ok (.goto (-81), 3) := by decide +kernel
theorem dX5_which_112 : decode cX5_which 112 = .ok (.iconst 0, 1) := by decide +kernel
theorem dX5_which_113 : decode cX5_which 113 = .ok (.istore 4, 2) := by decide +kernel
theorem dX5_which_115 : decode cX5_which 115 = .ok (.iload 4, 2) := by decide +kernel
theorem dX5_which_117 : decode cX5_which 117 = .ok (.aload_n 0, 1) := by decide +kernel
theorem dX5_which_118 : decode cX5_which 118 = .ok (.invokevirtual 54, 3) := by decide +kernel
theorem dX5_which_121 : decode cX5_which 121 = .ok (.if_icmp .ge 78, 3) := by decide +kernel
theorem dX5_which_124 : decode cX5_which 124 = .ok (.iconst 0, 1) := by decide +kernel
theorem dX5_which_125 : decode cX5_which 125 = .ok (.istore 5, 2) := by decide +kernel
theorem dX5_which_127 : decode cX5_which 127 = .ok (.iconst 0, 1) := by decide +kernel
theorem dX5_which_128 : decode cX5_which 128 = .ok (.istore 6, 2) := by decide +kernel
theorem dX5_which_130 : decode cX5_which 130 = .ok (.iload 6, 2) := by decide +kernel
theorem dX5_which_132 : decode cX5_which 132 = .ok (.aload_n 0, 1) := by decide +kernel
theorem dX5_which_133 : decode cX5_which 133 = .ok (.invokevirtual 62, 3) := by decide +kernel
theorem dX5_which_136 : decode cX5_which 136 = .ok (.if_icmp .ge 32, 3) := by decide +kernel
theorem dX5_which_139 : decode cX5_which 139 = .ok (.iload 5, 2) := by decide +kernel
theorem dX5_which_141 : decode cX5_which 141 = .ok (.ifCond .ne 14, 3) := by decide +kernel
theorem dX5_which_144 : decode cX5_which 144 = .ok (.aload_n 0, 1) := by decide +kernel
theorem dX5_which_145 : decode cX5_which 145 = .ok (.iload 6, 2) := by decide +kernel
theorem dX5_which_147 : decode cX5_which 147 = .ok (.iload 4, 2) := by decide +kernel
theorem dX5_which_149 : decode cX5_which 149 = .ok (.invokevirtual 167, 3) := by decide +kernel
theorem dX5_which_152 : decode cX5_which 152 = .ok (.ifCond .eq 7, 3) := by decide +kernel
theorem dX5_which_155 : decode cX5_which 155 = .ok (.iconst 1, 1) := by decide +kernel
theorem dX5_which_156 : decode cX5_which 156 = .ok (.goto 4, 3) := by decide +kernel
theorem dX5_which_159 : decode cX5_which 159 = .ok (.iconst 0, 1) := by decide +kernel
theorem dX5_which_160 : decode cX5_which 160 = .ok (.istore 5, 2) := by decide +kernel
theorem dX5_which_162 : decode cX5_which 162 = .ok (.iinc 6 1, 3) := by decide +kernel
theorem dX5_which_165 : decode cX5_which 165 = .ok (.goto (-35), 3) := by decide +kernel
theorem dX5_which_168 : decode cX5_which 168 = .ok (.iload_n 3, 1) := by decide +kernel
theorem dX5_which_169 : decode cX5_which 169 = .ok (.aload_n 0, 1) := by decide +kernel
theorem dX5_which_170 : decode cX5_which 170 = .ok (.iload 4, 2) := by decide +kernel
theorem dX5_which_172 : decode cX5_which 172 = .ok (.invokevirtual 164, 3) := by decide +kernel
theorem dX5_which_175 : decode cX5_which 175 = .ok (.ifCond .eq 15, 3) := by decide +kernel
theorem dX5_which_178 : decode cX5_which 178 = .ok (.iload 5, 2) := by decide +kernel
theorem dX5_which_180 : decode cX5_which 180 = .ok (.ifCond .ne 10, 3) := by decide +kernel
theorem dX5_which_183 : decode cX5_which 183 = .ok (.iconst 1, 1) := by decide +kernel
theorem dX5_which_184 : decode cX5_which 184 = .ok (.iload 4, 2) := by decide +kernel
theorem dX5_which_186 : decode cX5_which 186 = .ok (.ishl, 1) := by decide +kernel
theorem dX5_which_187 : decode cX5_which 187 = .ok (.goto 4, 3) := by decide +kernel
theorem dX5_which_190 : decode cX5_which 190 = .ok (.iconst 0, 1) := by decide +kernel
theorem dX5_which_191 : decode cX5_which 191 = .ok (.ior, 1) := by decide +kernel
theorem dX5_which_192 : decode cX5_which 192 = .ok (.istore_n 3, 1) := by decide +kernel
theorem dX5_which_193 : decode cX5_which 193 = .ok (.iinc 4 1, 3) := by decide +kernel
theorem dX5_which_196 : decode cX5_which 196 = .ok (.goto (-81), 3) := by decide +kernel
theorem dX5_which_199 : decode cX5_which 199 = .ok (.iload_n 1, 1) := by decide +kernel
theorem dX5_which_200 : decode cX5_which 200 = .ok (.ifCond .ne 7, 3) := by decide +kernel
theorem dX5_which_203 : decode cX5_which 203 = .ok (.iload_n 2, 1) := by decide +kernel
theorem dX5_which_204 : decode cX5_which 204 = .ok (.goto 4, 3) := by decide +kernel
theorem dX5_which_207 : decode cX5_which 207 = .ok (.iload_n 3, 1) := by decide +kernel
theorem dX5_which_208 : decode cX5_which 208 = .ok (.ireturn, 1) := by decide +kernel
theorem dX5_choose_0 : decode cX5_choose 0 = .ok (.lconst 1, 1) := by decide +kernel
theorem dX5_choose_1 : decode cX5_choose 1 = .ok (.lstore_n 2, 1) := by decide +kernel
theorem dX5_choose_2 : decode cX5_choose 2 = .ok (.iconst 0, 1) := by decide +kernel
theorem dX5_choose_3 : decode cX5_choose 3 = .ok (.istore 4, 2) := by decide +kernel
theorem dX5_choose_5 : decode cX5_choose 5 = .ok (.iload 4, 2) := by decide +kernel
theorem dX5_choose_7 : decode cX5_choose 7 = .ok (.iload_n 1, 1) := by decide +kernel
theorem dX5_choose_8 : decode cX5_choose 8 = .ok (.if_icmp .ge 23, 3) := by decide +kernel
theorem dX5_choose_11 : decode cX5_choose 11 = .ok (.lload_n 2, 1) := by decide +kernel
theorem dX5_choose_12 : decode cX5_choose 12 = .ok (.iload_n 0, 1) := by decide +kernel
theorem dX5_choose_13 : decode cX5_choose 13 = .ok (.iload 4, 2) := by decide +kernel
theorem dX5_choose_15 : decode cX5_choose 15 = .ok (.isub, 1) := by decide +kernel
theorem dX5_choose_16 : decode cX5_choose 16 = .ok (.i2l, 1) := by decide +kernel
theorem dX5_choose_17 : decode cX5_choose 17 = .ok (.lmul, 1) := by decide +kernel
theorem dX5_choose_18 : decode cX5_choose 18 = .ok (.iload 4, 2) := by decide +kernel
theorem dX5_choose_20 : decode cX5_choose 20 = .ok (.iconst 1, 1) := by decide +kernel
theorem dX5_choose_21 : decode cX5_choose 21 = .ok (.iadd, 1) := by decide +kernel
theorem dX5_choose_22 : decode cX5_choose 22 = .ok (.i2l, 1) := by decide +kernel
theorem dX5_choose_23 : decode cX5_choose 23 = .ok (.ldiv, 1) := by decide +kernel
theorem dX5_choose_24 : decode cX5_choose 24 = .ok (.lstore_n 2, 1) := by decide +kernel
theorem dX5_choose_25 : decode cX5_choose 25 = .ok (.iinc 4 1, 3) := by decide +kernel
theorem dX5_choose_28 : decode cX5_choose 28 = .ok (.goto (-23), 3) := by decide +kernel
theorem dX5_choose_31 : decode cX5_choose 31 = .ok (.lload_n 2, 1) := by decide +kernel
theorem dX5_choose_32 : decode cX5_choose 32 = .ok (.lreturn, 1) := by decide +kernel
theorem dX5_recount_0 : decode cX5_recount 0 = .ok (.aload_n 0, 1) := by decide +kernel
theorem dX5_recount_1 : decode cX5_recount 1 = .ok (.iload_n 1, 1) := by decide +kernel
theorem dX5_recount_2 : decode cX5_recount 2 = .ok (.invokevirtual 104, 3) := by decide +kernel
theorem dX5_recount_5 : decode cX5_recount 5 = .ok (.ifCond .eq 15, 3) := by decide +kernel
theorem dX5_recount_8 : decode cX5_recount 8 = .ok (.iload_n 2, 1) := by decide +kernel
theorem dX5_recount_9 : decode cX5_recount 9 = .ok (.i2l, 1) := by decide +kernel
theorem dX5_recount_10 : decode cX5_recount 10 = .ok (.lconst 1, 1) := by decide +kernel
theorem dX5_recount_11 : decode cX5_recount 11 = .ok (.ldc2_w 171, 3) := by decide +kernel
theorem dX5_recount_14 : decode cX5_recount 14 = .ok (.invokestatic 58, 3) := by decide +kernel
theorem dX5_recount_17 : decode cX5_recount 17 = .ok (.ifCond .ne 10, 3) := by decide +kernel
theorem dX5_recount_20 : decode cX5_recount 20 = .ok (.aload_n 0, 1) := by decide +kernel
theorem dX5_recount_21 : decode cX5_recount 21 = .ok (.bipush (-2), 2) := by decide +kernel
theorem dX5_recount_23 : decode cX5_recount 23 = .ok (.invokevirtual 73, 3) := by decide +kernel
theorem dX5_recount_26 : decode cX5_recount 26 = .ok (.ireturn, 1) := by decide +kernel
theorem dX5_recount_27 : decode cX5_recount 27 = .ok (.aload_n 0, 1) := by decide +kernel
theorem dX5_recount_28 : decode cX5_recount 28 = .ok (.invokevirtual 121, 3) := by decide +kernel
theorem dX5_recount_31 : decode cX5_recount 31 = .ok (.aload_n 0, 1) := by decide +kernel
theorem dX5_recount_32 : decode cX5_recount 32 = .ok (.iload_n 1, 1) := by decide +kernel
theorem dX5_recount_33 : decode cX5_recount 33 = .ok (.iconst 0, 1) := by decide +kernel
theorem dX5_recount_34 : decode cX5_recount 34 = .ok (.invokevirtual 124, 3) := by decide +kernel
theorem dX5_recount_37 : decode cX5_recount 37 = .ok (.istore_n 3, 1) := by decide +kernel
theorem dX5_recount_38 : decode cX5_recount 38 = .ok (.aload_n 0, 1) := by decide +kernel
theorem dX5_recount_39 : decode cX5_recount 39 = .ok (.iload_n 1, 1) := by decide +kernel
theorem dX5_recount_40 : decode cX5_recount 40 = .ok (.iconst 1, 1) := by decide +kernel
theorem dX5_recount_41 : decode cX5_recount 41 = .ok (.invokevirtual 124, 3) := by decide +kernel
theorem dX5_recount_44 : decode cX5_recount 44 = .ok (.istore 4, 2) := by decide +kernel
theorem dX5_recount_46 : decode cX5_recount 46 = .ok (.iload_n 2, 1) := by decide +kernel
theorem dX5_recount_47 : decode cX5_recount 47 = .ok (.iload_n 3, 1) := by decide +kernel
theorem dX5_recount_48 : decode cX5_recount 48 = .ok (.iload 4, 2) := by decide +kernel
theorem dX5_recount_50 : decode cX5_recount 50 = .ok (.iadd, 1) := by decide +kernel
theorem dX5_recount_51 : decode cX5_recount 51 = .ok (.if_icmp .le 10, 3) := by decide +kernel
theorem dX5_recount_54 : decode cX5_recount 54 = .ok (.aload_n 0, 1) := by decide +kernel
theorem dX5_recount_55 : decode cX5_recount 55 = .ok (.bipush (-2), 2) := by decide +kernel
theorem dX5_recount_57 : decode cX5_recount 57 = .ok (.invokevirtual 73, 3) := by decide +kernel
theorem dX5_recount_60 : decode cX5_recount 60 = .ok (.ireturn, 1) := by decide +kernel
theorem dX5_recount_61 : decode cX5_recount 61 = .ok (.iload_n 3, 1) := by decide +kernel
theorem dX5_recount_62 : decode cX5_recount 62 = .ok (.iload 4, 2) := by decide +kernel
theorem dX5_recount_64 : decode cX5_recount 64 = .ok (.if_icmp .ne 10, 3) := by decide +kernel
theorem dX5_recount_67 : decode cX5_recount 67 = .ok (.aload_n 0, 1) := by decide +kernel
theorem dX5_recount_68 : decode cX5_recount 68 = .ok (.bipush (-3), 2) := by decide +kernel
theorem dX5_recount_70 : decode cX5_recount 70 = .ok (.invokevirtual 90, 3) := by decide +kernel
theorem dX5_recount_73 : decode cX5_recount 73 = .ok (.ireturn, 1) := by decide +kernel
theorem dX5_recount_74 : decode cX5_recount 74 = .ok (.iload_n 3, 1) := by decide +kernel
theorem dX5_recount_75 : decode cX5_recount 75 = .ok (.iload 4, 2) := by decide +kernel
theorem dX5_recount_77 : decode cX5_recount 77 = .ok (.if_icmp .le 7, 3) := by decide +kernel
theorem dX5_recount_80 : decode cX5_recount 80 = .ok (.iload_n 3, 1) := by decide +kernel
theorem dX5_recount_81 : decode cX5_recount 81 = .ok (.goto 5, 3) := by decide +kernel
theorem dX5_recount_84 : decode cX5_recount 84 = .ok (.iload 4, 2) := by decide +kernel
theorem dX5_recount_86 : decode cX5_recount 86 = .ok (.istore 5, 2) := by decide +kernel
theorem dX5_recount_88 : decode cX5_recount 88 = .ok (.iload_n 3, 1) := by decide +kernel
theorem dX5_recount_89 : decode cX5_recount 89 = .ok (.iload 4, 2) := by decide +kernel
theorem dX5_recount_91 : decode cX5_recount 91 = .ok (.if_icmp .le 8, 3) := by decide +kernel
theorem dX5_recount_94 : decode cX5_recount 94 = .ok (.iload 4, 2) := by decide +kernel
theorem dX5_recount_96 : decode cX5_recount 96 = .ok (.goto 4, 3) := by decide +kernel
theorem dX5_recount_99 : decode cX5_recount 99 = .ok (.iload_n 3, 1) := by decide +kernel
theorem dX5_recount_100 : decode cX5_recount 100 = .ok (.istore 6, 2) := by decide +kernel
theorem dX5_recount_102 : decode cX5_recount 102 = .ok (.lconst 0, 1) := by decide +kernel
theorem dX5_recount_103 : decode cX5_recount 103 = .ok (.lstore 7, 2) := by decide +kernel
theorem dX5_recount_105 : decode cX5_recount 105 = .ok (.iconst 0, 1) := by decide +kernel
theorem dX5_recount_106 : decode cX5_recount 106 = .ok (.istore 9, 2) := by decide +kernel
theorem dX5_recount_108 : decode cX5_recount 108 = .ok (.iload 9, 2) := by decide +kernel
theorem dX5_recount_110 : decode cX5_recount 110 = .ok (.iload_n 2, 1) := by decide +kernel
theorem dX5_recount_111 : decode cX5_recount 111 = .ok (.if_icmp .gt 59, 3) := by decide +kernel
theorem dX5_recount_114 : decode cX5_recount 114 = .ok (.lload 7, 2) := by decide +kernel
theorem dX5_recount_116 : decode cX5_recount 116 = .ok (.iconst 2, 1) := by decide +kernel
theorem dX5_recount_117 : decode cX5_recount 117 = .ok (.iload 9, 2) := by decide +kernel
theorem dX5_recount_119 : decode cX5_recount 119 = .ok (.imul, 1) := by decide +kernel
theorem dX5_recount_120 : decode cX5_recount 120 = .ok (.iload_n 2, 1) := by decide +kernel
theorem dX5_recount_121 : decode cX5_recount 121 = .ok (.if_icmp .le 39, 3) := by decide +kernel
theorem dX5_recount_124 : decode cX5_recount 124 = .ok (.iload 9, 2) := by decide +kernel
theorem dX5_recount_126 : decode cX5_recount 126 = .ok (.iload 5, 2) := by decide +kernel
theorem dX5_recount_128 : decode cX5_recount 128 = .ok (.if_icmp .gt 32, 3) := by decide +kernel
theorem dX5_recount_131 : decode cX5_recount 131 = .ok (.iload_n 2, 1) := by decide +kernel
theorem dX5_recount_132 : decode cX5_recount 132 = .ok (.iload 9, 2) := by decide +kernel
theorem dX5_recount_134 : decode cX5_recount 134 = .ok (.isub, 1) := by decide +kernel
theorem dX5_recount_135 : decode cX5_recount 135 = .ok (.iload 6, 2) := by decide +kernel
theorem dX5_recount_137 : decode cX5_recount 137 = .ok (.if_icmp .gt 23, 3) := by decide +kernel
theorem dX5_recount_140 : decode cX5_recount 140 = .ok (.iload 5, 2) := by decide +kernel
theorem dX5_recount_142 : decode cX5_recount 142 = .ok (.iload 9, 2) := by decide +kernel
theorem dX5_recount_144 : decode cX5_recount 144 = .ok (.invokestatic 173, 3) := by decide +kernel
theorem dX5_recount_147 : decode cX5_recount 147 = .ok (.iload 6, 2) := by decide +kernel
theorem dX5_recount_149 : decode cX5_recount 149 = .ok (.iload_n 2, 1) := by decide +kernel
theorem dX5_recount_150 : decode cX5_recount 150 = .ok (.iload 9, 2) := by decide +kernel
theorem dX5_recount_152 : decode cX5_recount 152 = .ok (.isub, 1) := by decide +kernel
theorem dX5_recount_153 : decode cX5_recount 153 = .ok (.invokestatic 173, 3) := by decide +kernel
theorem dX5_recount_156 : decode cX5_recount 156 = .ok (.lmul, 1) := by decide +kernel
theorem dX5_recount_157 : decode cX5_recount 157 = .ok (.goto 4, 3) := by decide +kernel
theorem dX5_recount_160 : decode cX5_recount 160 = .ok (.lconst 0, 1) := by decide +kernel
theorem dX5_recount_161 : decode cX5_recount 161 = .ok (.ladd, 1) := by decide +kernel
theorem dX5_recount_162 : decode cX5_recount 162 = .ok (.lstore 7, 2) := by decide +kernel
theorem dX5_recount_164 : decode cX5_recount 164 = .ok (.iinc 9 1, 3) := by decide +kernel
theorem dX5_recount_167 : decode cX5_recount 167 = .ok (.goto (-59), 3) := by decide +kernel
theorem dX5_recount_170 : decode cX5_recount 170 = .ok (.aload_n 0, 1) := by decide +kernel
theorem dX5_recount_171 : decode cX5_recount 171 = .ok (.lload 7, 2) := by decide +kernel
theorem dX5_recount_173 : decode cX5_recount 173 = .ok (.iload 5, 2) := by decide +kernel
theorem dX5_recount_175 : decode cX5_recount 175 = .ok (.iload 6, 2) := by decide +kernel
theorem dX5_recount_177 : decode cX5_recount 177 = .ok (.iadd, 1) := by decide +kernel
theorem dX5_recount_178 : decode cX5_recount 178 = .ok (.iload_n 2, 1) := by decide +kernel
theorem dX5_recount_179 : decode cX5_recount 179 = .ok (.invokestatic 173, 3) := by decide +kernel
theorem dX5_recount_182 : decode cX5_recount 182 = .ok (.invokevirtual 138, 3) := by decide +kernel
theorem dX5_recount_185 : decode cX5_recount 185 = .ok (.ireturn, 1) := by decide +kernel
theorem dX5_goYear_0 : decode cX5_goYear 0 = .ok (.iconst 0, 1) := by decide +kernel
theorem dX5_goYear_1 : decode cX5_goYear 1 = .ok (.istore_n 2, 1) := by decide +kernel
theorem dX5_goYear_2 : decode cX5_goYear 2 = .ok (.iconst 0, 1) := by decide +kernel
theorem dX5_goYear_3 : decode cX5_goYear 3 = .ok (.istore_n 3, 1) := by decide +kernel
theorem dX5_goYear_4 : decode cX5_goYear 4 = .ok (.iload_n 3, 1) := by decide +kernel
theorem dX5_goYear_5 : decode cX5_goYear 5 = .ok (.iconst 4, 1) := by decide +kernel
theorem dX5_goYear_6 : decode cX5_goYear 6 = .ok (.aload_n 0, 1) := by decide +kernel
theorem dX5_goYear_7 : decode cX5_goYear 7 = .ok (.invokevirtual 54, 3) := by decide +kernel
theorem dX5_goYear_10 : decode cX5_goYear 10 = .ok (.imul, 1) := by decide +kernel
theorem dX5_goYear_11 : decode cX5_goYear 11 = .ok (.if_icmp .ge 52, 3) := by decide +kernel
theorem dX5_goYear_14 : decode cX5_goYear 14 = .ok (.iload_n 1, 1) := by decide +kernel
theorem dX5_goYear_15 : decode cX5_goYear 15 = .ok (.iconst (-1), 1) := by decide +kernel
theorem dX5_goYear_16 : decode cX5_goYear 16 = .ok (.if_icmp .ne 7, 3) := by decide +kernel
theorem dX5_goYear_19 : decode cX5_goYear 19 = .ok (.iconst 0, 1) := by decide +kernel
theorem dX5_goYear_20 : decode cX5_goYear 20 = .ok (.goto 19, 3) := by decide +kernel
theorem dX5_goYear_23 : decode cX5_goYear 23 = .ok (.aload_n 0, 1) := by decide +kernel
theorem dX5_goYear_24 : decode cX5_goYear 24 = .ok (.iload_n 1, 1) := by decide +kernel
theorem dX5_goYear_25 : decode cX5_goYear 25 = .ok (.iload_n 3, 1) := by decide +kernel
theorem dX5_goYear_26 : decode cX5_goYear 26 = .ok (.iconst 4, 1) := by decide +kernel
theorem dX5_goYear_27 : decode cX5_goYear 27 = .ok (.idiv, 1) := by decide +kernel
theorem dX5_goYear_28 : decode cX5_goYear 28 = .ok (.iload_n 3, 1) := by decide +kernel
theorem dX5_goYear_29 : decode cX5_goYear 29 = .ok (.iconst 2, 1) := by decide +kernel
theorem dX5_goYear_30 : decode cX5_goYear 30 = .ok (.idiv, 1) := by decide +kernel
theorem dX5_goYear_31 : decode cX5_goYear 31 = .ok (.iconst 2, 1) := by decide +kernel
theorem dX5_goYear_32 : decode cX5_goYear 32 = .ok (.irem, 1) := by decide +kernel
theorem dX5_goYear_33 : decode cX5_goYear 33 = .ok (.iload_n 3, 1) := by decide +kernel
theorem dX5_goYear_34 : decode cX5_goYear 34 = .ok (.iconst 2, 1) := by decide +kernel
theorem dX5_goYear_35 : decode cX5_goYear 35 = .ok (.irem, 1) := by decide +kernel
theorem dX5_goYear_36 : decode cX5_goYear 36 = .ok (.invokevirtual 114, 3) := by decide +kernel
theorem dX5_goYear_39 : decode cX5_goYear 39 = .ok (.istore 4, 2) := by decide +kernel
theorem dX5_goYear_41 : decode cX5_goYear 41 = .ok (.aload_n 0, 1) := by decide +kernel
theorem dX5_goYear_42 : decode cX5_goYear 42 = .ok (.getfield 27, 3) := by decide +kernel
theorem dX5_goYear_45 : decode cX5_goYear 45 = .ok (.iload_n 3, 1) := by decide +kernel
theorem dX5_goYear_46 : decode cX5_goYear 46 = .ok (.dup2, 1) := by decide +kernel
theorem dX5_goYear_47 : decode cX5_goYear 47 = .ok (.iaload, 1) := by decide +kernel
theorem dX5_goYear_48 : decode cX5_goYear 48 = .ok (.iload 4, 2) := by decide +kernel
theorem dX5_goYear_50 : decode cX5_goYear 50 = .ok (.isub, 1) := by decide +kernel
theorem dX5_goYear_51 : decode cX5_goYear 51 = .ok (.iastore, 1) := by decide +kernel
theorem dX5_goYear_52 : decode cX5_goYear 52 = .ok (.iload_n 2, 1) := by decide +kernel
theorem dX5_goYear_53 : decode cX5_goYear 53 = .ok (.iload 4, 2) := by decide +kernel
theorem dX5_goYear_55 : decode cX5_goYear 55 = .ok (.iadd, 1) := by decide +kernel
theorem dX5_goYear_56 : decode cX5_goYear 56 = .ok (.istore_n 2, 1) := by decide +kernel
theorem dX5_goYear_57 : decode cX5_goYear 57 = .ok (.iinc 3 1, 3) := by decide +kernel
theorem dX5_goYear_60 : decode cX5_goYear 60 = .ok (.goto (-56), 3) := by decide +kernel
theorem dX5_goYear_63 : decode cX5_goYear 63 = .ok (.iconst 0, 1) := by decide +kernel
theorem dX5_goYear_64 : decode cX5_goYear 64 = .ok (.istore_n 3, 1) := by decide +kernel
theorem dX5_goYear_65 : decode cX5_goYear 65 = .ok (.iload_n 3, 1) := by decide +kernel
theorem dX5_goYear_66 : decode cX5_goYear 66 = .ok (.aload_n 0, 1) := by decide +kernel
theorem dX5_goYear_67 : decode cX5_goYear 67 = .ok (.invokevirtual 54, 3) := by decide +kernel
theorem dX5_goYear_70 : decode cX5_goYear 70 = .ok (.if_icmp .ge 39, 3) := by decide +kernel
theorem dX5_goYear_73 : decode cX5_goYear 73 = .ok (.aload_n 0, 1) := by decide +kernel
theorem dX5_goYear_74 : decode cX5_goYear 74 = .ok (.getfield 30, 3) := by decide +kernel
theorem dX5_goYear_77 : decode cX5_goYear 77 = .ok (.iload_n 3, 1) := by decide +kernel
theorem dX5_goYear_78 : decode cX5_goYear 78 = .ok (.aload_n 0, 1) := by decide +kernel
theorem dX5_goYear_79 : decode cX5_goYear 79 = .ok (.getfield 30, 3) := by decide +kernel
theorem dX5_goYear_82 : decode cX5_goYear 82 = .ok (.iload_n 3, 1) := by decide +kernel
theorem dX5_goYear_83 : decode cX5_goYear 83 = .ok (.iaload, 1) := by decide +kernel
theorem dX5_goYear_84 : decode cX5_goYear 84 = .ok (.bipush 9, 2) := by decide +kernel
theorem dX5_goYear_86 : decode cX5_goYear 86 = .ok (.if_icmp .ne 8, 3) := by decide +kernel
theorem dX5_goYear_89 : decode cX5_goYear 89 = .ok (.bipush 9, 2) := by decide +kernel
theorem dX5_goYear_91 : decode cX5_goYear 91 = .ok (.goto 11, 3) := by decide +kernel
theorem dX5_goYear_94 : decode cX5_goYear 94 = .ok (.aload_n 0, 1) := by decide +kernel
theorem dX5_goYear_95 : decode cX5_goYear 95 = .ok (.getfield 30, 3) := by decide +kernel
theorem dX5_goYear_98 : decode cX5_goYear 98 = .ok (.iload_n 3, 1) := by decide +kernel
theorem dX5_goYear_99 : decode cX5_goYear 99 = .ok (.iaload, 1) := by decide +kernel
theorem dX5_goYear_100 : decode cX5_goYear 100 = .ok (.iconst 1, 1) := by decide +kernel
theorem dX5_goYear_101 : decode cX5_goYear 101 = .ok (.iadd, 1) := by decide +kernel
theorem dX5_goYear_102 : decode cX5_goYear 102 = .ok (.iastore, 1) := by decide +kernel
theorem dX5_goYear_103 : decode cX5_goYear 103 = .ok (.iinc 3 1, 3) := by decide +kernel
theorem dX5_goYear_106 : decode cX5_goYear 106 = .ok (.goto (-41), 3) := by decide +kernel
theorem dX5_goYear_109 : decode cX5_goYear 109 = .ok (.iload_n 2, 1) := by decide +kernel
theorem dX5_goYear_110 : decode cX5_goYear 110 = .ok (.ireturn, 1) := by decide +kernel
theorem dX5_keepYear_0 : decode cX5_keepYear 0 = .ok (.aload_n 0, 1) := by decide +kernel
theorem dX5_keepYear_1 : decode cX5_keepYear 1 = .ok (.getfield 7, 3) := by decide +kernel
theorem dX5_keepYear_4 : decode cX5_keepYear 4 = .ok (.bipush 96, 2) := by decide +kernel
theorem dX5_keepYear_6 : decode cX5_keepYear 6 = .ok (.iaload, 1) := by decide +kernel
theorem dX5_keepYear_7 : decode cX5_keepYear 7 = .ok (.iconst 3, 1) := by decide +kernel
theorem dX5_keepYear_8 : decode cX5_keepYear 8 = .ok (.if_icmp .ne 45, 3) := by decide +kernel
theorem dX5_keepYear_11 : decode cX5_keepYear 11 = .ok (.iconst 0, 1) := by decide +kernel
theorem dX5_keepYear_12 : decode cX5_keepYear 12 = .ok (.istore_n 1, 1) := by decide +kernel
theorem dX5_keepYear_13 : decode cX5_keepYear 13 = .ok (.iload_n 1, 1) := by decide +kernel
theorem dX5_keepYear_14 : decode cX5_keepYear 14 = .ok (.sipush 190, 3) := by decide +kernel
theorem dX5_keepYear_17 : decode cX5_keepYear 17 = .ok (.if_icmp .ge 28, 3) := by decide +kernel
theorem dX5_keepYear_20 : decode cX5_keepYear 20 = .ok (.aload_n 0, 1) := by decide +kernel
theorem dX5_keepYear_21 : decode cX5_keepYear 21 = .ok (.getfield 7, 3) := by decide +kernel
theorem dX5_keepYear_24 : decode cX5_keepYear 24 = .ok (.bipush 97, 2) := by decide +kernel
theorem dX5_keepYear_26 : decode cX5_keepYear 26 = .ok (.iload_n 1, 1) := by decide +kernel
theorem dX5_keepYear_27 : decode cX5_keepYear 27 = .ok (.iadd, 1) := by decide +kernel
theorem dX5_keepYear_28 : decode cX5_keepYear 28 = .ok (.aload_n 0, 1) := by decide +kernel
theorem dX5_keepYear_29 : decode cX5_keepYear 29 = .ok (.getfield 7, 3) := by decide +kernel
theorem dX5_keepYear_32 : decode cX5_keepYear 32 = .ok (.sipush 192, 3) := by decide +kernel
theorem dX5_keepYear_35 : decode cX5_keepYear 35 = .ok (.iload_n 1, 1) := by decide +kernel
theorem dX5_keepYear_36 : decode cX5_keepYear 36 = .ok (.iadd, 1) := by decide +kernel
theorem dX5_keepYear_37 : decode cX5_keepYear 37 = .ok (.iaload, 1) := by decide +kernel
theorem dX5_keepYear_38 : decode cX5_keepYear 38 = .ok (.iastore, 1) := by decide +kernel
theorem dX5_keepYear_39 : decode cX5_keepYear 39 = .ok (.iinc 1 1, 3) := by decide +kernel
theorem dX5_keepYear_42 : decode cX5_keepYear 42 = .ok (.goto (-29), 3) := by decide +kernel
theorem dX5_keepYear_45 : decode cX5_keepYear 45 = .ok (.aload_n 0, 1) := by decide +kernel
theorem dX5_keepYear_46 : decode cX5_keepYear 46 = .ok (.getfield 7, 3) := by decide +kernel
theorem dX5_keepYear_49 : decode cX5_keepYear 49 = .ok (.bipush 96, 2) := by decide +kernel
theorem dX5_keepYear_51 : decode cX5_keepYear 51 = .ok (.iconst 2, 1) := by decide +kernel
theorem dX5_keepYear_52 : decode cX5_keepYear 52 = .ok (.iastore, 1) := by decide +kernel
theorem dX5_keepYear_53 : decode cX5_keepYear 53 = .ok (.bipush 97, 2) := by decide +kernel
theorem dX5_keepYear_55 : decode cX5_keepYear 55 = .ok (.bipush 95, 2) := by decide +kernel
theorem dX5_keepYear_57 : decode cX5_keepYear 57 = .ok (.aload_n 0, 1) := by decide +kernel
theorem dX5_keepYear_58 : decode cX5_keepYear 58 = .ok (.getfield 7, 3) := by decide +kernel
theorem dX5_keepYear_61 : decode cX5_keepYear 61 = .ok (.bipush 96, 2) := by decide +kernel
theorem dX5_keepYear_63 : decode cX5_keepYear 63 = .ok (.iaload, 1) := by decide +kernel
theorem dX5_keepYear_64 : decode cX5_keepYear 64 = .ok (.imul, 1) := by decide +kernel
theorem dX5_keepYear_65 : decode cX5_keepYear 65 = .ok (.iadd, 1) := by decide +kernel
theorem dX5_keepYear_66 : decode cX5_keepYear 66 = .ok (.istore_n 1, 1) := by decide +kernel
theorem dX5_keepYear_67 : decode cX5_keepYear 67 = .ok (.iconst 0, 1) := by decide +kernel
theorem dX5_keepYear_68 : decode cX5_keepYear 68 = .ok (.istore_n 2, 1) := by decide +kernel
theorem dX5_keepYear_69 : decode cX5_keepYear 69 = .ok (.iload_n 2, 1) := by decide +kernel
theorem dX5_keepYear_70 : decode cX5_keepYear 70 = .ok (.bipush 95, 2) := by decide +kernel
theorem dX5_keepYear_72 : decode cX5_keepYear 72 = .ok (.if_icmp .ge 23, 3) := by decide +kernel
theorem dX5_keepYear_75 : decode cX5_keepYear 75 = .ok (.aload_n 0, 1) := by decide +kernel
theorem dX5_keepYear_76 : decode cX5_keepYear 76 = .ok (.getfield 7, 3) := by decide +kernel
theorem dX5_keepYear_79 : decode cX5_keepYear 79 = .ok (.iload_n 1, 1) := by decide +kernel
theorem dX5_keepYear_80 : decode cX5_keepYear 80 = .ok (.iload_n 2, 1) := by decide +kernel
theorem dX5_keepYear_81 : decode cX5_keepYear 81 = .ok (.iadd, 1) := by decide +kernel
theorem dX5_keepYear_82 : decode cX5_keepYear 82 = .ok (.aload_n 0, 1) := by decide +kernel
theorem dX5_keepYear_83 : decode cX5_keepYear 83 = .ok (.getfield 7, 3) := by decide +kernel
theorem dX5_keepYear_86 : decode cX5_keepYear 86 = .ok (.iload_n 2, 1) := by decide +kernel
theorem dX5_keepYear_87 : decode cX5_keepYear 87 = .ok (.iaload, 1) := by decide +kernel
theorem dX5_keepYear_88 : decode cX5_keepYear 88 = .ok (.iastore, 1) := by decide +kernel
theorem dX5_keepYear_89 : decode cX5_keepYear 89 = .ok (.iinc 2 1, 3) := by decide +kernel
theorem dX5_keepYear_92 : decode cX5_keepYear 92 = .ok (.goto (-23), 3) := by decide +kernel
theorem dX5_keepYear_95 : decode cX5_keepYear 95 = .ok (.aload_n 0, 1) := by decide +kernel
theorem dX5_keepYear_96 : decode cX5_keepYear 96 = .ok (.getfield 7, 3) := by decide +kernel
theorem dX5_keepYear_99 : decode cX5_keepYear 99 = .ok (.bipush 96, 2) := by decide +kernel
theorem dX5_keepYear_101 : decode cX5_keepYear 101 = .ok (.dup2, 1) := by decide +kernel
theorem dX5_keepYear_102 : decode cX5_keepYear 102 = .ok (.iaload, 1) := by decide +kernel
theorem dX5_keepYear_103 : decode cX5_keepYear 103 = .ok (.iconst 1, 1) := by decide +kernel
theorem dX5_keepYear_104 : decode cX5_keepYear 104 = .ok (.iadd, 1) := by decide +kernel
theorem dX5_keepYear_105 : decode cX5_keepYear 105 = .ok (.iastore, 1) := by decide +kernel
theorem dX5_keepYear_106 : decode cX5_keepYear 106 = .ok (.return_, 1) := by decide +kernel
theorem dX5_year_0 : decode cX5_year 0 = .ok (.iload_n 1, 1) := by decide +kernel
theorem dX5_year_1 : decode cX5_year 1 = .ok (.iconst (-1), 1) := by decide +kernel
theorem dX5_year_2 : decode cX5_year 2 = .ok (.if_icmp .eq 18, 3) := by decide +kernel
theorem dX5_year_5 : decode cX5_year 5 = .ok (.aload_n 0, 1) := by decide +kernel
theorem dX5_year_6 : decode cX5_year 6 = .ok (.iload_n 1, 1) := by decide +kernel
theorem dX5_year_7 : decode cX5_year 7 = .ok (.invokevirtual 104, 3) := by decide +kernel
theorem dX5_year_10 : decode cX5_year 10 = .ok (.ifCond .ne 10, 3) := by decide +kernel
theorem dX5_year_13 : decode cX5_year 13 = .ok (.aload_n 0, 1) := by decide +kernel
theorem dX5_year_14 : decode cX5_year 14 = .ok (.bipush (-2), 2) := by decide +kernel
theorem dX5_year_16 : decode cX5_year 16 = .ok (.invokevirtual 73, 3) := by decide +kernel
theorem dX5_year_19 : decode cX5_year 19 = .ok (.ireturn, 1) := by decide +kernel
theorem dX5_year_20 : decode cX5_year 20 = .ok (.aload_n 0, 1) := by decide +kernel
theorem dX5_year_21 : decode cX5_year 21 = .ok (.invokevirtual 177, 3) := by decide +kernel
theorem dX5_year_24 : decode cX5_year 24 = .ok (.aload_n 0, 1) := by decide +kernel
theorem dX5_year_25 : decode cX5_year 25 = .ok (.invokevirtual 121, 3) := by decide +kernel
theorem dX5_year_28 : decode cX5_year 28 = .ok (.aload_n 0, 1) := by decide +kernel
theorem dX5_year_29 : decode cX5_year 29 = .ok (.iload_n 1, 1) := by decide +kernel
theorem dX5_year_30 : decode cX5_year 30 = .ok (.invokevirtual 180, 3) := by decide +kernel
theorem dX5_year_33 : decode cX5_year 33 = .ok (.istore_n 2, 1) := by decide +kernel
theorem dX5_year_34 : decode cX5_year 34 = .ok (.iconst 0, 1) := by decide +kernel
theorem dX5_year_35 : decode cX5_year 35 = .ok (.istore_n 3, 1) := by decide +kernel
theorem dX5_year_36 : decode cX5_year 36 = .ok (.iload_n 3, 1) := by decide +kernel
theorem dX5_year_37 : decode cX5_year 37 = .ok (.aload_n 0, 1) := by decide +kernel
theorem dX5_year_38 : decode cX5_year 38 = .ok (.invokevirtual 54, 3) := by decide +kernel
theorem dX5_year_41 : decode cX5_year 41 = .ok (.if_icmp .ge 70, 3) := by decide +kernel
theorem dX5_year_44 : decode cX5_year 44 = .ok (.iconst 0, 1) := by decide +kernel
theorem dX5_year_45 : decode cX5_year 45 = .ok (.istore 4, 2) := by decide +kernel
theorem dX5_year_47 : decode cX5_year 47 = .ok (.iload 4, 2) := by decide +kernel
theorem dX5_year_49 : decode cX5_year 49 = .ok (.iconst 4, 1) := by decide +kernel
theorem dX5_year_50 : decode cX5_year 50 = .ok (.if_icmp .ge 36, 3) := by decide +kernel
theorem dX5_year_53 : decode cX5_year 53 = .ok (.aload_n 0, 1) := by decide +kernel
theorem dX5_year_54 : decode cX5_year 54 = .ok (.getfield 7, 3) := by decide +kernel
theorem dX5_year_57 : decode cX5_year 57 = .ok (.iconst 0, 1) := by decide +kernel
theorem dX5_year_58 : decode cX5_year 58 = .ok (.bipush 8, 2) := by decide +kernel
theorem dX5_year_60 : decode cX5_year 60 = .ok (.iload_n 3, 1) := by decide +kernel
theorem dX5_year_61 : decode cX5_year 61 = .ok (.imul, 1) := by decide +kernel
theorem dX5_year_62 : decode cX5_year 62 = .ok (.iadd, 1) := by decide +kernel
theorem dX5_year_63 : decode cX5_year 63 = .ok (.iconst 2, 1) := by decide +kernel
theorem dX5_year_64 : decode cX5_year 64 = .ok (.iadd, 1) := by decide +kernel
theorem dX5_year_65 : decode cX5_year 65 = .ok (.iload 4, 2) := by decide +kernel
theorem dX5_year_67 : decode cX5_year 67 = .ok (.iadd, 1) := by decide +kernel
theorem dX5_year_68 : decode cX5_year 68 = .ok (.aload_n 0, 1) := by decide +kernel
theorem dX5_year_69 : decode cX5_year 69 = .ok (.getfield 27, 3) := by decide +kernel
theorem dX5_year_72 : decode cX5_year 72 = .ok (.iconst 4, 1) := by decide +kernel
theorem dX5_year_73 : decode cX5_year 73 = .ok (.iload_n 3, 1) := by decide +kernel
theorem dX5_year_74 : decode cX5_year 74 = .ok (.imul, 1) := by decide +kernel
theorem dX5_year_75 : decode cX5_year 75 = .ok (.iload 4, 2) := by decide +kernel
theorem dX5_year_77 : decode cX5_year 77 = .ok (.iadd, 1) := by decide +kernel
theorem dX5_year_78 : decode cX5_year 78 = .ok (.iaload, 1) := by decide +kernel
theorem dX5_year_79 : decode cX5_year 79 = .ok (.iastore, 1) := by decide +kernel
theorem dX5_year_80 : decode cX5_year 80 = .ok (.iinc 4 1, 3) := by decide +kernel
theorem dX5_year_83 : decode cX5_year 83 = .ok (.goto (-36), 3) := by decide +kernel
theorem dX5_year_86 : decode cX5_year 86 = .ok (.aload_n 0, 1) := by decide +kernel
theorem dX5_year_87 : decode cX5_year 87 = .ok (.getfield 7, 3) := by decide +kernel
theorem dX5_year_90 : decode cX5_year 90 = .ok (.iconst 0, 1) := by decide +kernel
theorem dX5_year_91 : decode cX5_year 91 = .ok (.bipush 8, 2) := by decide +kernel
theorem dX5_year_93 : decode cX5_year 93 = .ok (.iload_n 3, 1) := by decide +kernel
theorem dX5_year_94 : decode cX5_year 94 = .ok (.imul, 1) := by decide +kernel
theorem dX5_year_95 : decode cX5_year 95 = .ok (.iadd, 1) := by decide +kernel
theorem dX5_year_96 : decode cX5_year 96 = .ok (.iconst 1, 1) := by decide +kernel
theorem dX5_year_97 : decode cX5_year 97 = .ok (.iadd, 1) := by decide +kernel
theorem dX5_year_98 : decode cX5_year 98 = .ok (.aload_n 0, 1) := by decide +kernel
theorem dX5_year_99 : decode cX5_year 99 = .ok (.getfield 30, 3) := by decide +kernel
theorem dX5_year_102 : decode cX5_year 102 = .ok (.iload_n 3, 1) := by decide +kernel
theorem dX5_year_103 : decode cX5_year 103 = .ok (.iaload, 1) := by decide +kernel
theorem dX5_year_104 : decode cX5_year 104 = .ok (.iastore, 1) := by decide +kernel
theorem dX5_year_105 : decode cX5_year 105 = .ok (.iinc 3 1, 3) := by decide +kernel
theorem dX5_year_108 : decode cX5_year 108 = .ok (.goto (-72), 3) := by decide +kernel
theorem dX5_year_111 : decode cX5_year 111 = .ok (.aload_n 0, 1) := by decide +kernel
theorem dX5_year_112 : decode cX5_year 112 = .ok (.getfield 7, 3) := by decide +kernel
theorem dX5_year_115 : decode cX5_year 115 = .ok (.bipush 95, 2) := by decide +kernel
theorem dX5_year_117 : decode cX5_year 117 = .ok (.dup2, 1) := by decide +kernel
theorem dX5_year_118 : decode cX5_year 118 = .ok (.iaload, 1) := by decide +kernel
theorem dX5_year_119 : decode cX5_year 119 = .ok (.iconst 1, 1) := by decide +kernel
theorem dX5_year_120 : decode cX5_year 120 = .ok (.iadd, 1) := by decide +kernel
theorem dX5_year_121 : decode cX5_year 121 = .ok (.iastore, 1) := by decide +kernel
theorem dX5_year_122 : decode cX5_year 122 = .ok (.iload_n 2, 1) := by decide +kernel
theorem dX5_year_123 : decode cX5_year 123 = .ok (.ireturn, 1) := by decide +kernel
theorem dX5_undo_0 : decode cX5_undo 0 = .ok (.aload_n 0, 1) := by decide +kernel
theorem dX5_undo_1 : decode cX5_undo 1 = .ok (.getfield 7, 3) := by decide +kernel
theorem dX5_undo_4 : decode cX5_undo 4 = .ok (.bipush 96, 2) := by decide +kernel
theorem dX5_undo_6 : decode cX5_undo 6 = .ok (.iaload, 1) := by decide +kernel
theorem dX5_undo_7 : decode cX5_undo 7 = .ok (.ifCond .ne 10, 3) := by decide +kernel
theorem dX5_undo_10 : decode cX5_undo 10 = .ok (.aload_n 0, 1) := by decide +kernel
theorem dX5_undo_11 : decode cX5_undo 11 = .ok (.bipush (-3), 2) := by decide +kernel
theorem dX5_undo_13 : decode cX5_undo 13 = .ok (.invokevirtual 90, 3) := by decide +kernel
theorem dX5_undo_16 : decode cX5_undo 16 = .ok (.ireturn, 1) := by decide +kernel
theorem dX5_undo_17 : decode cX5_undo 17 = .ok (.aload_n 0, 1) := by decide +kernel
theorem dX5_undo_18 : decode cX5_undo 18 = .ok (.getfield 7, 3) := by decide +kernel
theorem dX5_undo_21 : decode cX5_undo 21 = .ok (.bipush 96, 2) := by decide +kernel
theorem dX5_undo_23 : decode cX5_undo 23 = .ok (.dup2, 1) := by decide +kernel
theorem dX5_undo_24 : decode cX5_undo 24 = .ok (.iaload, 1) := by decide +kernel
theorem dX5_undo_25 : decode cX5_undo 25 = .ok (.iconst 1, 1) := by decide +kernel
theorem dX5_undo_26 : decode cX5_undo 26 = .ok (.isub, 1) := by decide +kernel
theorem dX5_undo_27 : decode cX5_undo 27 = .ok (.iastore, 1) := by decide +kernel
theorem dX5_undo_28 : decode cX5_undo 28 = .ok (.aload_n 0, 1) := by decide +kernel
theorem dX5_undo_29 : decode cX5_undo 29 = .ok (.getfield 7, 3) := by decide +kernel
theorem dX5_undo_32 : decode cX5_undo 32 = .ok (.bipush 95, 2) := by decide +kernel
theorem dX5_undo_34 : decode cX5_undo 34 = .ok (.dup2, 1) := by decide +kernel
theorem dX5_undo_35 : decode cX5_undo 35 = .ok (.iaload, 1) := by decide +kernel
theorem dX5_undo_36 : decode cX5_undo 36 = .ok (.iconst 1, 1) := by decide +kernel
theorem dX5_undo_37 : decode cX5_undo 37 = .ok (.isub, 1) := by decide +kernel
theorem dX5_undo_38 : decode cX5_undo 38 = .ok (.iastore, 1) := by decide +kernel
theorem dX5_undo_39 : decode cX5_undo 39 = .ok (.bipush 97, 2) := by decide +kernel
theorem dX5_undo_41 : decode cX5_undo 41 = .ok (.bipush 95, 2) := by decide +kernel
theorem dX5_undo_43 : decode cX5_undo 43 = .ok (.aload_n 0, 1) := by decide +kernel
theorem dX5_undo_44 : decode cX5_undo 44 = .ok (.getfield 7, 3) := by decide +kernel
theorem dX5_undo_47 : decode cX5_undo 47 = .ok (.bipush 96, 2) := by decide +kernel
theorem dX5_undo_49 : decode cX5_undo 49 = .ok (.iaload, 1) := by decide +kernel
theorem dX5_undo_50 : decode cX5_undo 50 = .ok (.imul, 1) := by decide +kernel
theorem dX5_undo_51 : decode cX5_undo 51 = .ok (.iadd, 1) := by decide +kernel
theorem dX5_undo_52 : decode cX5_undo 52 = .ok (.istore_n 1, 1) := by decide +kernel
theorem dX5_undo_53 : decode cX5_undo 53 = .ok (.iconst 0, 1) := by decide +kernel
theorem dX5_undo_54 : decode cX5_undo 54 = .ok (.istore_n 2, 1) := by decide +kernel
theorem dX5_undo_55 : decode cX5_undo 55 = .ok (.iload_n 2, 1) := by decide +kernel
theorem dX5_undo_56 : decode cX5_undo 56 = .ok (.bipush 95, 2) := by decide +kernel
theorem dX5_undo_58 : decode cX5_undo 58 = .ok (.if_icmp .ge 23, 3) := by decide +kernel
theorem dX5_undo_61 : decode cX5_undo 61 = .ok (.aload_n 0, 1) := by decide +kernel
theorem dX5_undo_62 : decode cX5_undo 62 = .ok (.getfield 7, 3) := by decide +kernel
theorem dX5_undo_65 : decode cX5_undo 65 = .ok (.iload_n 2, 1) := by decide +kernel
theorem dX5_undo_66 : decode cX5_undo 66 = .ok (.aload_n 0, 1) := by decide +kernel
theorem dX5_undo_67 : decode cX5_undo 67 = .ok (.getfield 7, 3) := by decide +kernel
theorem dX5_undo_70 : decode cX5_undo 70 = .ok (.iload_n 1, 1) := by decide +kernel
theorem dX5_undo_71 : decode cX5_undo 71 = .ok (.iload_n 2, 1) := by decide +kernel
theorem dX5_undo_72 : decode cX5_undo 72 = .ok (.iadd, 1) := by decide +kernel
theorem dX5_undo_73 : decode cX5_undo 73 = .ok (.iaload, 1) := by decide +kernel
theorem dX5_undo_74 : decode cX5_undo 74 = .ok (.iastore, 1) := by decide +kernel
theorem dX5_undo_75 : decode cX5_undo 75 = .ok (.iinc 2 1, 3) := by decide +kernel
theorem dX5_undo_78 : decode cX5_undo 78 = .ok (.goto (-23), 3) := by decide +kernel
theorem dX5_undo_81 : decode cX5_undo 81 = .ok (.iconst 1, 1) := by decide +kernel
theorem dX5_undo_82 : decode cX5_undo 82 = .ok (.ireturn, 1) := by decide +kernel
theorem dX5_drawn_0 : decode cX5_drawn 0 = .ok (.iload_n 1, 1) := by decide +kernel
theorem dX5_drawn_1 : decode cX5_drawn 1 = .ok (.i2l, 1) := by decide +kernel
theorem dX5_drawn_2 : decode cX5_drawn 2 = .ok (.lconst 0, 1) := by decide +kernel
theorem dX5_drawn_3 : decode cX5_drawn 3 = .ok (.ldc2_w 183, 3) := by decide +kernel
theorem dX5_drawn_6 : decode cX5_drawn 6 = .ok (.invokestatic 58, 3) := by decide +kernel
theorem dX5_drawn_9 : decode cX5_drawn 9 = .ok (.ifCond .eq 15, 3) := by decide +kernel
theorem dX5_drawn_12 : decode cX5_drawn 12 = .ok (.iload_n 2, 1) := by decide +kernel
theorem dX5_drawn_13 : decode cX5_drawn 13 = .ok (.i2l, 1) := by decide +kernel
theorem dX5_drawn_14 : decode cX5_drawn 14 = .ok (.lconst 0, 1) := by decide +kernel
theorem dX5_drawn_15 : decode cX5_drawn 15 = .ok (.ldc2_w 185, 3) := by decide +kernel
theorem dX5_drawn_18 : decode cX5_drawn 18 = .ok (.invokestatic 58, 3) := by decide +kernel
theorem dX5_drawn_21 : decode cX5_drawn 21 = .ok (.ifCond .ne 11, 3) := by decide +kernel
theorem dX5_drawn_24 : decode cX5_drawn 24 = .ok (.aload_n 0, 1) := by decide +kernel
theorem dX5_drawn_25 : decode cX5_drawn 25 = .ok (.sipush (-1000), 3) := by decide +kernel
theorem dX5_drawn_28 : decode cX5_drawn 28 = .ok (.invokevirtual 73, 3) := by decide +kernel
theorem dX5_drawn_31 : decode cX5_drawn 31 = .ok (.ireturn, 1) := by decide +kernel
theorem dX5_drawn_32 : decode cX5_drawn 32 = .ok (.aload_n 0, 1) := by decide +kernel
theorem dX5_drawn_33 : decode cX5_drawn 33 = .ok (.invokevirtual 121, 3) := by decide +kernel
theorem dX5_drawn_36 : decode cX5_drawn 36 = .ok (.iload_n 1, 1) := by decide +kernel
theorem dX5_drawn_37 : decode cX5_drawn 37 = .ok (.i2l, 1) := by decide +kernel
theorem dX5_drawn_38 : decode cX5_drawn 38 = .ok (.lstore_n 3, 1) := by decide +kernel
theorem dX5_drawn_39 : decode cX5_drawn 39 = .ok (.iconst 0, 1) := by decide +kernel
theorem dX5_drawn_40 : decode cX5_drawn 40 = .ok (.istore 5, 2) := by decide +kernel
theorem dX5_drawn_42 : decode cX5_drawn 42 = .ok (.iconst 0, 1) := by decide +kernel
theorem dX5_drawn_43 : decode cX5_drawn 43 = .ok (.istore 6, 2) := by decide +kernel
theorem dX5_drawn_45 : decode cX5_drawn 45 = .ok (.iload 6, 2) := by decide +kernel
theorem dX5_drawn_47 : decode cX5_drawn 47 = .ok (.iload_n 2, 1) := by decide +kernel
theorem dX5_drawn_48 : decode cX5_drawn 48 = .ok (.if_icmp .ge 177, 3) := by decide +kernel
theorem dX5_drawn_51 : decode cX5_drawn 51 = .ok (.lload_n 3, 1) := by decide +kernel
theorem dX5_drawn_52 : decode cX5_drawn 52 = .ok (.ldc2_w 187, 3) := by decide +kernel
theorem dX5_drawn_55 : decode cX5_drawn 55 = .ok (.lmul, 1) := by decide +kernel
theorem dX5_drawn_56 : decode cX5_drawn 56 = .ok (.ldc2_w 189, 3) := by decide +kernel
theorem dX5_drawn_59 : decode cX5_drawn 59 = .ok (.ladd, 1) := by decide +kernel
theorem dX5_drawn_60 : decode cX5_drawn 60 = .ok (.ldc2_w 191, 3) := by decide +kernel
theorem dX5_drawn_63 : decode cX5_drawn 63 = .ok (.lrem, 1) := by decide +kernel
theorem dX5_drawn_64 : decode cX5_drawn 64 = .ok (.lstore_n 3, 1) := by decide +kernel
theorem dX5_drawn_65 : decode cX5_drawn 65 = .ok (.lload_n 3, 1) := by decide +kernel
theorem dX5_drawn_66 : decode cX5_drawn 66 = .ok (.ldc2_w 193, 3) := by decide +kernel
theorem dX5_drawn_69 : decode cX5_drawn 69 = .ok (.ldiv, 1) := by decide +kernel
theorem dX5_drawn_70 : decode cX5_drawn 70 = .ok (.aload_n 0, 1) := by decide +kernel
theorem dX5_drawn_71 : decode cX5_drawn 71 = .ok (.invokevirtual 135, 3) := by decide +kernel
theorem dX5_drawn_74 : decode cX5_drawn 74 = .ok (.iconst 1, 1) := by decide +kernel
theorem dX5_drawn_75 : decode cX5_drawn 75 = .ok (.iadd, 1) := by decide +kernel
theorem dX5_drawn_76 : decode cX5_drawn 76 = .ok (.i2l, 1) := by decide +kernel
theorem dX5_drawn_77 : decode cX5_drawn 77 = .ok (.lrem, 1) := by decide +kernel
theorem dX5_drawn_78 : decode cX5_drawn 78 = .ok (.l2i, 1) := by decide +kernel
theorem dX5_drawn_79 : decode cX5_drawn 79 = .ok (.istore 7, 2) := by decide +kernel
theorem dX5_drawn_81 : decode cX5_drawn 81 = .ok (.iconst 0, 1) := by decide +kernel
theorem dX5_drawn_82 : decode cX5_drawn 82 = .ok (.istore 8, 2) := by decide +kernel
theorem dX5_drawn_84 : decode cX5_drawn 84 = .ok (.iload 8, 2) := by decide +kernel
theorem dX5_drawn_86 : decode cX5_drawn 86 = .ok (.aload_n 0, 1) := by decide +kernel
theorem dX5_drawn_87 : decode cX5_drawn 87 = .ok (.invokevirtual 62, 3) := by decide +kernel
theorem dX5_drawn_90 : decode cX5_drawn 90 = .ok (.if_icmp .ge 12, 3) := by decide +kernel
theorem dX5_drawn_93 : decode cX5_drawn 93 = .ok (.aload_n 0, 1) := by decide +kernel
theorem dX5_drawn_94 : decode cX5_drawn 94 = .ok (.iconst 0, 1) := by decide +kernel
theorem dX5_drawn_95 : decode cX5_drawn 95 = .ok (.iconst 4, 1) := by decide +kernel
theorem dX5_drawn_96 : decode cX5_drawn 96 = .ok (.invokevirtual 97, 3) := by decide +kernel
theorem dX5_drawn_99 : decode cX5_drawn 99 = .ok (.goto 4, 3) := by decide +kernel
theorem dX5_drawn_102 : decode cX5_drawn 102 = .ok (.iconst 0, 1) := by decide +kernel
theorem dX5_drawn_103 : decode cX5_drawn 103 = .ok (.istore 9, 2) := by decide +kernel
theorem dX5_drawn_105 : decode cX5_drawn 105 = .ok (.iload 8, 2) := by decide +kernel
theorem dX5_drawn_107 : decode cX5_drawn 107 = .ok (.aload_n 0, 1) := by decide +kernel
theorem dX5_drawn_108 : decode cX5_drawn 108 = .ok (.invokevirtual 62, 3) := by decide +kernel
theorem dX5_drawn_111 : decode cX5_drawn 111 = .ok (.if_icmp .ge 41, 3) := by decide +kernel
theorem dX5_drawn_114 : decode cX5_drawn 114 = .ok (.iload 9, 2) := by decide +kernel
theorem dX5_drawn_116 : decode cX5_drawn 116 = .ok (.iload 7, 2) := by decide +kernel
theorem dX5_drawn_118 : decode cX5_drawn 118 = .ok (.if_icmp .gt 34, 3) := by decide +kernel
theorem dX5_drawn_121 : decode cX5_drawn 121 = .ok (.iinc 8 1, 3) := by decide +kernel
theorem dX5_drawn_124 : decode cX5_drawn 124 = .ok (.iload 9, 2) := by decide +kernel
theorem dX5_drawn_126 : decode cX5_drawn 126 = .ok (.iload 8, 2) := by decide +kernel
theorem dX5_drawn_128 : decode cX5_drawn 128 = .ok (.aload_n 0, 1) := by decide +kernel
theorem dX5_drawn_129 : decode cX5_drawn 129 = .ok (.invokevirtual 62, 3) := by decide +kernel
theorem dX5_drawn_132 : decode cX5_drawn 132 = .ok (.if_icmp .ge 13, 3) := by decide +kernel
theorem dX5_drawn_135 : decode cX5_drawn 135 = .ok (.aload_n 0, 1) := by decide +kernel
theorem dX5_drawn_136 : decode cX5_drawn 136 = .ok (.iload 8, 2) := by decide +kernel
theorem dX5_drawn_138 : decode cX5_drawn 138 = .ok (.iconst 4, 1) := by decide +kernel
theorem dX5_drawn_139 : decode cX5_drawn 139 = .ok (.invokevirtual 97, 3) := by decide +kernel
theorem dX5_drawn_142 : decode cX5_drawn 142 = .ok (.goto 4, 3) := by decide +kernel
theorem dX5_drawn_145 : decode cX5_drawn 145 = .ok (.iconst 0, 1) := by decide +kernel
theorem dX5_drawn_146 : decode cX5_drawn 146 = .ok (.iadd, 1) := by decide +kernel
theorem dX5_drawn_147 : decode cX5_drawn 147 = .ok (.istore 9, 2) := by decide +kernel
theorem dX5_drawn_149 : decode cX5_drawn 149 = .ok (.goto (-44), 3) := by decide +kernel
theorem dX5_drawn_152 : decode cX5_drawn 152 = .ok (.iload 8, 2) := by decide +kernel
theorem dX5_drawn_154 : decode cX5_drawn 154 = .ok (.aload_n 0, 1) := by decide +kernel
theorem dX5_drawn_155 : decode cX5_drawn 155 = .ok (.invokevirtual 62, 3) := by decide +kernel
theorem dX5_drawn_158 : decode cX5_drawn 158 = .ok (.if_icmp .ge 12, 3) := by decide +kernel
theorem dX5_drawn_161 : decode cX5_drawn 161 = .ok (.aload_n 0, 1) := by decide +kernel
theorem dX5_drawn_162 : decode cX5_drawn 162 = .ok (.iload 8, 2) := by decide +kernel
theorem dX5_drawn_164 : decode cX5_drawn 164 = .ok (.invokevirtual 127, 3) := by decide +kernel
theorem dX5_drawn_167 : decode cX5_drawn 167 = .ok (.goto 4, 3) := by decide +kernel
theorem dX5_drawn_170 : decode cX5_drawn 170 = .ok (.iconst (-1), 1) := by decide +kernel
theorem dX5_drawn_171 : decode cX5_drawn 171 = .ok (.istore 10, 2) := by decide +kernel
theorem dX5_drawn_173 : decode cX5_drawn 173 = .ok (.iload 5, 2) := by decide +kernel
theorem dX5_drawn_175 : decode cX5_drawn 175 = .ok (.iload 10, 2) := by decide +kernel
theorem dX5_drawn_177 : decode cX5_drawn 177 = .ok (.ifCond .ne 7, 3) := by decide +kernel
theorem dX5_drawn_180 : decode cX5_drawn 180 = .ok (.iconst 1, 1) := by decide +kernel
theorem dX5_drawn_181 : decode cX5_drawn 181 = .ok (.goto 14, 3) := by decide +kernel
theorem dX5_drawn_184 : decode cX5_drawn 184 = .ok (.iload 10, 2) := by decide +kernel
theorem dX5_drawn_186 : decode cX5_drawn 186 = .ok (.iconst 1, 1) := by decide +kernel
theorem dX5_drawn_187 : decode cX5_drawn 187 = .ok (.if_icmp .ne 7, 3) := by decide +kernel
theorem dX5_drawn_190 : decode cX5_drawn 190 = .ok (.iconst (-1), 1) := by decide +kernel
theorem dX5_drawn_191 : decode cX5_drawn 191 = .ok (.goto 4, 3) := by decide +kernel
theorem dX5_drawn_194 : decode cX5_drawn 194 = .ok (.iconst 0, 1) := by decide +kernel
theorem dX5_drawn_195 : decode cX5_drawn 195 = .ok (.iadd, 1) := by decide +kernel
theorem dX5_drawn_196 : decode cX5_drawn 196 = .ok (.istore 5, 2) := by decide +kernel
theorem dX5_drawn_198 : decode cX5_drawn 198 = .ok (.aload_n 0, 1) := by decide +kernel
theorem dX5_drawn_199 : decode cX5_drawn 199 = .ok (.iload 8, 2) := by decide +kernel
theorem dX5_drawn_201 : decode cX5_drawn 201 = .ok (.aload_n 0, 1) := by decide +kernel
theorem dX5_drawn_202 : decode cX5_drawn 202 = .ok (.invokevirtual 62, 3) := by decide +kernel
theorem dX5_drawn_205 : decode cX5_drawn 205 = .ok (.if_icmp .ge 8, 3) := by decide +kernel
theorem dX5_drawn_208 : decode cX5_drawn 208 = .ok (.iload 8, 2) := by decide +kernel
theorem dX5_drawn_210 : decode cX5_drawn 210 = .ok (.goto 4, 3) := by decide +kernel
theorem dX5_drawn_213 : decode cX5_drawn 213 = .ok (.iconst (-1), 1) := by decide +kernel
theorem dX5_drawn_214 : decode cX5_drawn 214 = .ok (.invokevirtual 180, 3) := by decide +kernel
theorem dX5_drawn_217 : decode cX5_drawn 217 = .ok (.istore 11, 2) := by decide +kernel
theorem dX5_drawn_219 : decode cX5_drawn 219 = .ok (.iinc 6 1, 3) := by decide +kernel
theorem dX5_drawn_222 : decode cX5_drawn 222 = .ok (.goto (-177), 3) := by decide +kernel
theorem dX5_drawn_225 : decode cX5_drawn 225 = .ok (.iload 5, 2) := by decide +kernel
theorem dX5_drawn_227 : decode cX5_drawn 227 = .ok (.ireturn, 1) := by decide +kernel
theorem dX5_type_0 : decode cX5_type 0 = .ok (.iload_n 3, 1) := by decide +kernel
theorem dX5_type_1 : decode cX5_type 1 = .ok (.i2l, 1) := by decide +kernel
theorem dX5_type_2 : decode cX5_type 2 = .ok (.lconst 1, 1) := by decide +kernel
theorem dX5_type_3 : decode cX5_type 3 = .ok (.ldc2_w 171, 3) := by decide +kernel
theorem dX5_type_6 : decode cX5_type 6 = .ok (.invokestatic 58, 3) := by decide +kernel
theorem dX5_type_9 : decode cX5_type 9 = .ok (.ifCond .ne 10, 3) := by decide +kernel
theorem dX5_type_12 : decode cX5_type 12 = .ok (.aload_n 0, 1) := by decide +kernel
theorem dX5_type_13 : decode cX5_type 13 = .ok (.bipush (-2), 2) := by decide +kernel
theorem dX5_type_15 : decode cX5_type 15 = .ok (.invokevirtual 73, 3) := by decide +kernel
theorem dX5_type_18 : decode cX5_type 18 = .ok (.ireturn, 1) := by decide +kernel
theorem dX5_type_19 : decode cX5_type 19 = .ok (.aload_n 0, 1) := by decide +kernel
theorem dX5_type_20 : decode cX5_type 20 = .ok (.getfield 195, 3) := by decide +kernel
theorem dX5_type_23 : decode cX5_type 23 = .ok (.iload_n 3, 1) := by decide +kernel
theorem dX5_type_24 : decode cX5_type 24 = .ok (.iadd, 1) := by decide +kernel
theorem dX5_type_25 : decode cX5_type 25 = .ok (.sipush 250, 3) := by decide +kernel
theorem dX5_type_28 : decode cX5_type 28 = .ok (.if_icmp .le 8, 3) := by decide +kernel
theorem dX5_type_31 : decode cX5_type 31 = .ok (.aload_n 0, 1) := by decide +kernel
theorem dX5_type_32 : decode cX5_type 32 = .ok (.invokevirtual 77, 3) := by decide +kernel
theorem dX5_type_35 : decode cX5_type 35 = .ok (.ireturn, 1) := by decide +kernel
theorem dX5_type_36 : decode cX5_type 36 = .ok (.iload_n 3, 1) := by decide +kernel
theorem dX5_type_37 : decode cX5_type 37 = .ok (.iconst 1, 1) := by decide +kernel
theorem dX5_type_38 : decode cX5_type 38 = .ok (.isub, 1) := by decide +kernel
theorem dX5_type_39 : decode cX5_type 39 = .ok (.istore 4, 2) := by decide +kernel
theorem dX5_type_41 : decode cX5_type 41 = .ok (.iload 4, 2) := by decide +kernel
theorem dX5_type_43 : decode cX5_type 43 = .ok (.ifCond .lt 40, 3) := by decide +kernel
theorem dX5_type_46 : decode cX5_type 46 = .ok (.aload_n 0, 1) := by decide +kernel
theorem dX5_type_47 : decode cX5_type 47 = .ok (.getfield 42, 3) := by decide +kernel
theorem dX5_type_50 : decode cX5_type 50 = .ok (.aload_n 0, 1) := by decide +kernel
theorem dX5_type_51 : decode cX5_type 51 = .ok (.getfield 195, 3) := by decide +kernel
theorem dX5_type_54 : decode cX5_type 54 = .ok (.lload_n 1, 1) := by decide +kernel
theorem dX5_type_55 : decode cX5_type 55 = .ok (.bipush 8, 2) := by decide +kernel
theorem dX5_type_57 : decode cX5_type 57 = .ok (.iload 4, 2) := by decide +kernel
theorem dX5_type_59 : decode cX5_type 59 = .ok (.imul, 1) := by decide +kernel
theorem dX5_type_60 : decode cX5_type 60 = .ok (.lushr, 1) := by decide +kernel
theorem dX5_type_61 : decode cX5_type 61 = .ok (.ldc2_w 198, 3) := by decide +kernel
theorem dX5_type_64 : decode cX5_type 64 = .ok (.land, 1) := by decide +kernel
theorem dX5_type_65 : decode cX5_type 65 = .ok (.l2i, 1) := by decide +kernel
theorem dX5_type_66 : decode cX5_type 66 = .ok (.iastore, 1) := by decide +kernel
theorem dX5_type_67 : decode cX5_type 67 = .ok (.aload_n 0, 1) := by decide +kernel
theorem dX5_type_68 : decode cX5_type 68 = .ok (.dup, 1) := by decide +kernel
theorem dX5_type_69 : decode cX5_type 69 = .ok (.getfield 195, 3) := by decide +kernel
theorem dX5_type_72 : decode cX5_type 72 = .ok (.iconst 1, 1) := by decide +kernel
theorem dX5_type_73 : decode cX5_type 73 = .ok (.iadd, 1) := by decide +kernel
theorem dX5_type_74 : decode cX5_type 74 = .ok (.putfield 195, 3) := by decide +kernel
theorem dX5_type_77 : decode cX5_type 77 = .ok (.iinc 4 (-1), 3) := by decide +kernel
theorem dX5_type_80 : decode cX5_type 80 = .ok (.goto (-39), 3) := by decide +kernel
theorem dX5_type_83 : decode cX5_type 83 = .ok (.aload_n 0, 1) := by decide +kernel
theorem dX5_type_84 : decode cX5_type 84 = .ok (.getfield 195, 3) := by decide +kernel
theorem dX5_type_87 : decode cX5_type 87 = .ok (.ireturn, 1) := by decide +kernel
theorem dX5_clear_0 : decode cX5_clear 0 = .ok (.aload_n 0, 1) := by decide +kernel
theorem dX5_clear_1 : decode cX5_clear 1 = .ok (.getfield 195, 3) := by decide +kernel
theorem dX5_clear_4 : decode cX5_clear 4 = .ok (.istore_n 1, 1) := by decide +kernel
theorem dX5_clear_5 : decode cX5_clear 5 = .ok (.aload_n 0, 1) := by decide +kernel
theorem dX5_clear_6 : decode cX5_clear 6 = .ok (.iconst 0, 1) := by decide +kernel
theorem dX5_clear_7 : decode cX5_clear 7 = .ok (.putfield 195, 3) := by decide +kernel
theorem dX5_clear_10 : decode cX5_clear 10 = .ok (.iload_n 1, 1) := by decide +kernel
theorem dX5_clear_11 : decode cX5_clear 11 = .ok (.ireturn, 1) := by decide +kernel
theorem dX5_isSmall_0 : decode cX5_isSmall 0 = .ok (.iload_n 0, 1) := by decide +kernel
theorem dX5_isSmall_1 : decode cX5_isSmall 1 = .ok (.i2l, 1) := by decide +kernel
theorem dX5_isSmall_2 : decode cX5_isSmall 2 = .ok (.ldc2_w 200, 3) := by decide +kernel
theorem dX5_isSmall_5 : decode cX5_isSmall 5 = .ok (.ldc2_w 202, 3) := by decide +kernel
theorem dX5_isSmall_8 : decode cX5_isSmall 8 = .ok (.invokestatic 58, 3) := by decide +kernel
theorem dX5_isSmall_11 : decode cX5_isSmall 11 = .ok (.ireturn, 1) := by decide +kernel
theorem dX5_isFigure_0 : decode cX5_isFigure 0 = .ok (.iload_n 0, 1) := by decide +kernel
theorem dX5_isFigure_1 : decode cX5_isFigure 1 = .ok (.i2l, 1) := by decide +kernel
theorem dX5_isFigure_2 : decode cX5_isFigure 2 = .ok (.ldc2_w 204, 3) := by decide +kernel
theorem dX5_isFigure_5 : decode cX5_isFigure 5 = .ok (.ldc2_w 206, 3) := by decide +kernel
theorem dX5_isFigure_8 : decode cX5_isFigure 8 = .ok (.invokestatic 58, 3) := by decide +kernel
theorem dX5_isFigure_11 : decode cX5_isFigure 11 = .ok (.ireturn, 1) := by decide +kernel
theorem dX5_look_0 : decode cX5_look 0 = .ok (.aload_n 0, 1) := by decide +kernel
theorem dX5_look_1 : decode cX5_look 1 = .ok (.iload_n 1, 1) := by decide +kernel
theorem dX5_look_2 : decode cX5_look 2 = .ok (.putfield 208, 3) := by decide +kernel
theorem dX5_look_5 : decode cX5_look 5 = .ok (.aload_n 0, 1) := by decide +kernel
theorem dX5_look_6 : decode cX5_look 6 = .ok (.getfield 208, 3) := by decide +kernel
theorem dX5_look_9 : decode cX5_look 9 = .ok (.aload_n 0, 1) := by decide +kernel
theorem dX5_look_10 : decode cX5_look 10 = .ok (.getfield 195, 3) := by decide +kernel
theorem dX5_look_13 : decode cX5_look 13 = .ok (.if_icmp .ge 30, 3) := by decide +kernel
theorem dX5_look_16 : decode cX5_look 16 = .ok (.aload_n 0, 1) := by decide +kernel
theorem dX5_look_17 : decode cX5_look 17 = .ok (.getfield 42, 3) := by decide +kernel
theorem dX5_look_20 : decode cX5_look 20 = .ok (.aload_n 0, 1) := by decide +kernel
theorem dX5_look_21 : decode cX5_look 21 = .ok (.getfield 208, 3) := by decide +kernel
theorem dX5_look_24 : decode cX5_look 24 = .ok (.iaload, 1) := by decide +kernel
theorem dX5_look_25 : decode cX5_look 25 = .ok (.bipush 32, 2) := by decide +kernel
theorem dX5_look_27 : decode cX5_look 27 = .ok (.if_icmp .ne 16, 3) := by decide +kernel
theorem dX5_look_30 : decode cX5_look 30 = .ok (.aload_n 0, 1) := by decide +kernel
theorem dX5_look_31 : decode cX5_look 31 = .ok (.dup, 1) := by decide +kernel
theorem dX5_look_32 : decode cX5_look 32 = .ok (.getfield 208, 3) := by decide +kernel
theorem dX5_look_35 : decode cX5_look 35 = .ok (.iconst 1, 1) := by decide +kernel
theorem dX5_look_36 : decode cX5_look 36 = .ok (.iadd, 1) := by decide +kernel
theorem dX5_look_37 : decode cX5_look 37 = .ok (.putfield 208, 3) := by decide +kernel
theorem dX5_look_40 : decode cX5_look 40 = .ok (.goto (-35), 3) := by decide +kernel
theorem dX5_look_43 : decode cX5_look 43 = .ok (.aload_n 0, 1) := by decide +kernel
theorem dX5_look_44 : decode cX5_look 44 = .ok (.iconst 0, 1) := by decide +kernel
theorem dX5_look_45 : decode cX5_look 45 = .ok (.putfield 211, 3) := by decide +kernel
theorem dX5_look_48 : decode cX5_look 48 = .ok (.aload_n 0, 1) := by decide +kernel
theorem dX5_look_49 : decode cX5_look 49 = .ok (.iconst 0, 1) := by decide +kernel
theorem dX5_look_50 : decode cX5_look 50 = .ok (.putfield 214, 3) := by decide +kernel
theorem dX5_look_53 : decode cX5_look 53 = .ok (.aload_n 0, 1) := by decide +kernel
theorem dX5_look_54 : decode cX5_look 54 = .ok (.iconst 0, 1) := by decide +kernel
theorem dX5_look_55 : decode cX5_look 55 = .ok (.putfield 217, 3) := by decide +kernel
theorem dX5_look_58 : decode cX5_look 58 = .ok (.aload_n 0, 1) := by decide +kernel
theorem dX5_look_59 : decode cX5_look 59 = .ok (.getfield 208, 3) := by decide +kernel
theorem dX5_look_62 : decode cX5_look 62 = .ok (.aload_n 0, 1) := by decide +kernel
theorem dX5_look_63 : decode cX5_look 63 = .ok (.getfield 195, 3) := by decide +kernel
theorem dX5_look_66 : decode cX5_look 66 = .ok (.if_icmp .ne 4, 3) := by decide +kernel
theorem dX5_look_69 : decode cX5_look 69 = .ok (.return_, 1) := by decide +kernel
theorem dX5_look_70 : decode cX5_look 70 = .ok (.aload_n 0, 1) := by decide +kernel
theorem dX5_look_71 : decode cX5_look 71 = .ok (.getfield 42, 3) := by decide +kernel
theorem dX5_look_74 : decode cX5_look 74 = .ok (.aload_n 0, 1) := by decide +kernel
theorem dX5_look_75 : decode cX5_look 75 = .ok (.getfield 208, 3) := by decide +kernel
theorem dX5_look_78 : decode cX5_look 78 = .ok (.iaload, 1) := by decide +kernel
theorem dX5_look_79 : decode cX5_look 79 = .ok (.istore_n 2, 1) := by decide +kernel
theorem dX5_look_80 : decode cX5_look 80 = .ok (.aload_n 0, 1) := by decide +kernel
theorem dX5_look_81 : decode cX5_look 81 = .ok (.iload_n 2, 1) := by decide +kernel
theorem dX5_look_82 : decode cX5_look 82 = .ok (.invokestatic 220, 3) := by decide +kernel
theorem dX5_look_85 : decode cX5_look 85 = .ok (.ifCond .eq 7, 3) := by decide +kernel
theorem dX5_look_88 : decode cX5_look 88 = .ok (.iconst 1, 1) := by decide +kernel
theorem dX5_look_89 : decode cX5_look 89 = .ok (.goto 25, 3) := by decide +kernel
theorem dX5_look_92 : decode cX5_look 92 = .ok (.iload_n 2, 1) := by decide +kernel
theorem dX5_look_93 : decode cX5_look 93 = .ok (.invokestatic 223, 3) := by decide +kernel
theorem dX5_look_96 : decode cX5_look 96 = .ok (.ifCond .eq 7, 3) := by decide +kernel
theorem dX5_look_99 : decode cX5_look 99 = .ok (.iconst 2, 1) := by decide +kernel
theorem dX5_look_100 : decode cX5_look 100 = .ok (.goto 14, 3) := by decide +kernel
theorem dX5_look_103 : decode cX5_look 103 = .ok (.iload_n 2, 1) := by decide +kernel
theorem dX5_look_104 : decode cX5_look 104 = .ok (.bipush 59, 2) := by decide +kernel
theorem dX5_look_106 : decode cX5_look 106 = .ok (.if_icmp .ne 7, 3) := by decide +kernel
theorem dX5_look_109 : decode cX5_look 109 = .ok (.iconst 3, 1) := by decide +kernel
theorem dX5_look_110 : decode cX5_look 110 = .ok (.goto 4, 3) := by decide +kernel
theorem dX5_look_113 : decode cX5_look 113 = .ok (.iconst 4, 1) := by decide +kernel
theorem dX5_look_114 : decode cX5_look 114 = .ok (.putfield 214, 3) := by decide +kernel
theorem dX5_look_117 : decode cX5_look 117 = .ok (.aload_n 0, 1) := by decide +kernel
theorem dX5_look_118 : decode cX5_look 118 = .ok (.iconst 1, 1) := by decide +kernel
theorem dX5_look_119 : decode cX5_look 119 = .ok (.putfield 211, 3) := by decide +kernel
theorem dX5_look_122 : decode cX5_look 122 = .ok (.aload_n 0, 1) := by decide +kernel
theorem dX5_look_123 : decode cX5_look 123 = .ok (.getfield 214, 3) := by decide +kernel
theorem dX5_look_126 : decode cX5_look 126 = .ok (.iconst 3, 1) := by decide +kernel
theorem dX5_look_127 : decode cX5_look 127 = .ok (.if_icmp .ge 7, 3) := by decide +kernel
theorem dX5_look_130 : decode cX5_look 130 = .ok (.iconst 1, 1) := by decide +kernel
theorem dX5_look_131 : decode cX5_look 131 = .ok (.goto 4, 3) := by decide +kernel
theorem dX5_look_134 : decode cX5_look 134 = .ok (.iconst 0, 1) := by decide +kernel
theorem dX5_look_135 : decode cX5_look 135 = .ok (.istore_n 3, 1) := by decide +kernel
theorem dX5_look_136 : decode cX5_look 136 = .ok (.iload_n 3, 1) := by decide +kernel
theorem dX5_look_137 : decode cX5_look 137 = .ok (.ifCond .eq 78, 3) := by decide +kernel
theorem dX5_look_140 : decode cX5_look 140 = .ok (.aload_n 0, 1) := by decide +kernel
theorem dX5_look_141 : decode cX5_look 141 = .ok (.getfield 208, 3) := by decide +kernel
theorem dX5_look_144 : decode cX5_look 144 = .ok (.aload_n 0, 1) := by decide +kernel
theorem dX5_look_145 : decode cX5_look 145 = .ok (.getfield 211, 3) := by decide +kernel
theorem dX5_look_148 : decode cX5_look 148 = .ok (.iadd, 1) := by decide +kernel
theorem dX5_look_149 : decode cX5_look 149 = .ok (.aload_n 0, 1) := by decide +kernel
theorem dX5_look_150 : decode cX5_look 150 = .ok (.getfield 195, 3) := by decide +kernel
theorem dX5_look_153 : decode cX5_look 153 = .ok (.if_icmp .ge 62, 3) := by decide +kernel
theorem dX5_look_156 : decode cX5_look 156 = .ok (.aload_n 0, 1) := by decide +kernel
theorem dX5_look_157 : decode cX5_look 157 = .ok (.getfield 42, 3) := by decide +kernel
theorem dX5_look_160 : decode cX5_look 160 = .ok (.aload_n 0, 1) := by decide +kernel
theorem dX5_look_161 : decode cX5_look 161 = .ok (.getfield 208, 3) := by decide +kernel
theorem dX5_look_164 : decode cX5_look 164 = .ok (.aload_n 0, 1) := by decide +kernel
theorem dX5_look_165 : decode cX5_look 165 = .ok (.getfield 211, 3) := by decide +kernel
theorem dX5_look_168 : decode cX5_look 168 = .ok (.iadd, 1) := by decide +kernel
theorem dX5_look_169 : decode cX5_look 169 = .ok (.iaload, 1) := by decide +kernel
theorem dX5_look_170 : decode cX5_look 170 = .ok (.istore 4, 2) := by decide +kernel
theorem dX5_look_172 : decode cX5_look 172 = .ok (.aload_n 0, 1) := by decide +kernel
theorem dX5_look_173 : decode cX5_look 173 = .ok (.getfield 214, 3) := by decide +kernel
theorem dX5_look_176 : decode cX5_look 176 = .ok (.iconst 1, 1) := by decide +kernel
theorem dX5_look_177 : decode cX5_look 177 = .ok (.if_icmp .ne 11, 3) := by decide +kernel
theorem dX5_look_180 : decode cX5_look 180 = .ok (.iload 4, 2) := by decide +kernel
theorem dX5_look_182 : decode cX5_look 182 = .ok (.invokestatic 220, 3) := by decide +kernel
theorem dX5_look_185 : decode cX5_look 185 = .ok (.goto 8, 3) := by decide +kernel
theorem dX5_look_188 : decode cX5_look 188 = .ok (.iload 4, 2) := by decide +kernel
theorem dX5_look_190 : decode cX5_look 190 = .ok (.invokestatic 223, 3) := by decide +kernel
theorem dX5_look_193 : decode cX5_look 193 = .ok (.istore_n 3, 1) := by decide +kernel
theorem dX5_look_194 : decode cX5_look 194 = .ok (.aload_n 0, 1) := by decide +kernel
theorem dX5_look_195 : decode cX5_look 195 = .ok (.dup, 1) := by decide +kernel
theorem dX5_look_196 : decode cX5_look 196 = .ok (.getfield 211, 3) := by decide +kernel
theorem dX5_look_199 : decode cX5_look 199 = .ok (.iload_n 3, 1) := by decide +kernel
theorem dX5_look_200 : decode cX5_look 200 = .ok (.ifCond .eq 7, 3) := by decide +kernel
theorem dX5_look_203 : decode cX5_look 203 = .ok (.iconst 1, 1) := by decide +kernel
theorem dX5_look_204 : decode cX5_look 204 = .ok (.goto 4, 3) := by decide +kernel
theorem dX5_look_207 : decode cX5_look 207 = .ok (.iconst 0, 1) := by decide +kernel
theorem dX5_look_208 : decode cX5_look 208 = .ok (.iadd, 1) := by decide +kernel
theorem dX5_look_209 : decode cX5_look 209 = .ok (.putfield 211, 3) := by decide +kernel
theorem dX5_look_212 : decode cX5_look 212 = .ok (.goto (-76), 3) := by decide +kernel
theorem dX5_look_215 : decode cX5_look 215 = .ok (.aload_n 0, 1) := by decide +kernel
theorem dX5_look_216 : decode cX5_look 216 = .ok (.iload_n 2, 1) := by decide +kernel
theorem dX5_look_217 : decode cX5_look 217 = .ok (.bipush 48, 2) := by decide +kernel
theorem dX5_look_219 : decode cX5_look 219 = .ok (.isub, 1) := by decide +kernel
theorem dX5_look_220 : decode cX5_look 220 = .ok (.putfield 217, 3) := by decide +kernel
theorem dX5_look_223 : decode cX5_look 223 = .ok (.aload_n 0, 1) := by decide +kernel
theorem dX5_look_224 : decode cX5_look 224 = .ok (.aload_n 0, 1) := by decide +kernel
theorem dX5_look_225 : decode cX5_look 225 = .ok (.getfield 214, 3) := by decide +kernel
theorem dX5_look_228 : decode cX5_look 228 = .ok (.iconst 2, 1) := by decide +kernel
theorem dX5_look_229 : decode cX5_look 229 = .ok (.if_icmp .ne 15, 3) := by decide +kernel
theorem dX5_look_232 : decode cX5_look 232 = .ok (.aload_n 0, 1) := by decide +kernel
theorem dX5_look_233 : decode cX5_look 233 = .ok (.getfield 211, 3) := by decide +kernel
theorem dX5_look_236 : decode cX5_look 236 = .ok (.iconst 1, 1) := by decide +kernel
theorem dX5_look_237 : decode cX5_look 237 = .ok (.if_icmp .le 7, 3) := by decide +kernel
theorem dX5_look_240 : decode cX5_look 240 = .ok (.iconst 4, 1) := by decide +kernel
theorem dX5_look_241 : decode cX5_look 241 = .ok (.goto 7, 3) := by decide +kernel
theorem dX5_look_244 : decode cX5_look 244 = .ok (.aload_n 0, 1) := by decide +kernel
theorem dX5_look_245 : decode cX5_look 245 = .ok (.getfield 214, 3) := by decide +kernel
theorem dX5_look_248 : decode cX5_look 248 = .ok (.putfield 214, 3) := by decide +kernel
theorem dX5_look_251 : decode cX5_look 251 = .ok (.return_, 1) := by decide +kernel
theorem dX5_goOn_0 : decode cX5_goOn 0 = .ok (.aload_n 0, 1) := by decide +kernel
theorem dX5_goOn_1 : decode cX5_goOn 1 = .ok (.aload_n 0, 1) := by decide +kernel
theorem dX5_goOn_2 : decode cX5_goOn 2 = .ok (.getfield 208, 3) := by decide +kernel
theorem dX5_goOn_5 : decode cX5_goOn 5 = .ok (.aload_n 0, 1) := by decide +kernel
theorem dX5_goOn_6 : decode cX5_goOn 6 = .ok (.getfield 211, 3) := by decide +kernel
theorem dX5_goOn_9 : decode cX5_goOn 9 = .ok (.iadd, 1) := by decide +kernel
theorem dX5_goOn_10 : decode cX5_goOn 10 = .ok (.invokevirtual 226, 3) := by decide +kernel
theorem dX5_goOn_13 : decode cX5_goOn 13 = .ok (.return_, 1) := by decide +kernel
theorem dX5_isWord_0 : decode cX5_isWord 0 = .ok (.iload 5, 2) := by decide +kernel
theorem dX5_isWord_2 : decode cX5_isWord 2 = .ok (.ifCond .ne 7, 3) := by decide +kernel
theorem dX5_isWord_5 : decode cX5_isWord 5 = .ok (.iconst 4, 1) := by decide +kernel
theorem dX5_isWord_6 : decode cX5_isWord 6 = .ok (.goto 14, 3) := by decide +kernel
theorem dX5_isWord_9 : decode cX5_isWord 9 = .ok (.iload 6, 2) := by decide +kernel
theorem dX5_isWord_11 : decode cX5_isWord 11 = .ok (.ifCond .ne 7, 3) := by decide +kernel
theorem dX5_isWord_14 : decode cX5_isWord 14 = .ok (.iconst 5, 1) := by decide +kernel
theorem dX5_isWord_15 : decode cX5_isWord 15 = .ok (.goto 5, 3) := by decide +kernel
theorem dX5_isWord_18 : decode cX5_isWord 18 = .ok (.bipush 6, 2) := by decide +kernel
theorem dX5_isWord_20 : decode cX5_isWord 20 = .ok (.istore 7, 2) := by decide +kernel
theorem dX5_isWord_22 : decode cX5_isWord 22 = .ok (.aload_n 0, 1) := by decide +kernel
theorem dX5_isWord_23 : decode cX5_isWord 23 = .ok (.getfield 214, 3) := by decide +kernel
theorem dX5_isWord_26 : decode cX5_isWord 26 = .ok (.iconst 1, 1) := by decide +kernel
theorem dX5_isWord_27 : decode cX5_isWord 27 = .ok (.if_icmp .ne 16, 3) := by decide +kernel
theorem dX5_isWord_30 : decode cX5_isWord 30 = .ok (.aload_n 0, 1) := by decide +kernel
theorem dX5_isWord_31 : decode cX5_isWord 31 = .ok (.getfield 211, 3) := by decide +kernel
theorem dX5_isWord_34 : decode cX5_isWord 34 = .ok (.iload 7, 2) := by decide +kernel
theorem dX5_isWord_36 : decode cX5_isWord 36 = .ok (.if_icmp .ne 7, 3) := by decide +kernel
theorem dX5_isWord_39 : decode cX5_isWord 39 = .ok (.iconst 1, 1) := by decide +kernel
theorem dX5_isWord_40 : decode cX5_isWord 40 = .ok (.goto 4, 3) := by decide +kernel
theorem dX5_isWord_43 : decode cX5_isWord 43 = .ok (.iconst 0, 1) := by decide +kernel
theorem dX5_isWord_44 : decode cX5_isWord 44 = .ok (.istore 8, 2) := by decide +kernel
theorem dX5_isWord_46 : decode cX5_isWord 46 = .ok (.iconst 0, 1) := by decide +kernel
theorem dX5_isWord_47 : decode cX5_isWord 47 = .ok (.istore 9, 2) := by decide +kernel
theorem dX5_isWord_49 : decode cX5_isWord 49 = .ok (.iload 9, 2) := by decide +kernel
theorem dX5_isWord_51 : decode cX5_isWord 51 = .ok (.iload 7, 2) := by decide +kernel
theorem dX5_isWord_53 : decode cX5_isWord 53 = .ok (.if_icmp .ge 89, 3) := by decide +kernel
theorem dX5_isWord_56 : decode cX5_isWord 56 = .ok (.iload 8, 2) := by decide +kernel
theorem dX5_isWord_58 : decode cX5_isWord 58 = .ok (.ifCond .eq 84, 3) := by decide +kernel
theorem dX5_isWord_61 : decode cX5_isWord 61 = .ok (.aload_n 0, 1) := by decide +kernel
theorem dX5_isWord_62 : decode cX5_isWord 62 = .ok (.getfield 42, 3) := by decide +kernel
theorem dX5_isWord_65 : decode cX5_isWord 65 = .ok (.aload_n 0, 1) := by decide +kernel
theorem dX5_isWord_66 : decode cX5_isWord 66 = .ok (.getfield 208, 3) := by decide +kernel
theorem dX5_isWord_69 : decode cX5_isWord 69 = .ok (.iload 9, 2) := by decide +kernel
theorem dX5_isWord_71 : decode cX5_isWord 71 = .ok (.iadd, 1) := by decide +kernel
theorem dX5_isWord_72 : decode cX5_isWord 72 = .ok (.iaload, 1) := by decide +kernel
theorem dX5_isWord_73 : decode cX5_isWord 73 = .ok (.iload 9, 2) := by decide +kernel
theorem dX5_isWord_75 : decode cX5_isWord 75 = .ok (.ifCond .ne 7, 3) := by decide +kernel
theorem dX5_isWord_78 : decode cX5_isWord 78 = .ok (.iload_n 1, 1) := by decide +kernel
theorem dX5_isWord_79 : decode cX5_isWord 79 = .ok (.goto 47, 3) := by decide +kernel
theorem dX5_isWord_82 : decode cX5_isWord 82 = .ok (.iload 9, 2) := by decide +kernel
theorem dX5_isWord_84 : decode cX5_isWord 84 = .ok (.iconst 1, 1) := by decide +kernel
theorem dX5_isWord_85 : decode cX5_isWord 85 = .ok (.if_icmp .ne 7, 3) := by decide +kernel
theorem dX5_isWord_88 : decode cX5_isWord 88 = .ok (.iload_n 2, 1) := by decide +kernel
theorem dX5_isWord_89 : decode cX5_isWord 89 = .ok (.goto 37, 3) := by decide +kernel
theorem dX5_isWord_92 : decode cX5_isWord 92 = .ok (.iload 9, 2) := by decide +kernel
theorem dX5_isWord_94 : decode cX5_isWord 94 = .ok (.iconst 2, 1) := by decide +kernel
theorem dX5_isWord_95 : decode cX5_isWord 95 = .ok (.if_icmp .ne 7, 3) := by decide +kernel
theorem dX5_isWord_98 : decode cX5_isWord 98 = .ok (.iload_n 3, 1) := by decide +kernel
theorem dX5_isWord_99 : decode cX5_isWord 99 = .ok (.goto 27, 3) := by decide +kernel
theorem dX5_isWord_102 : decode cX5_isWord 102 = .ok (.iload 9, 2) := by decide +kernel
theorem dX5_isWord_104 : decode cX5_isWord 104 = .ok (.iconst 3, 1) := by decide +kernel
theorem dX5_isWord_105 : decode cX5_isWord 105 = .ok (.if_icmp .ne 8, 3) := by decide +kernel
theorem dX5_isWord_108 : decode cX5_isWord 108 = .ok (.iload 4, 2) := by decide +kernel
theorem dX5_isWord_110 : decode cX5_isWord 110 = .ok (.goto 16, 3) := by decide +kernel
theorem dX5_isWord_113 : decode cX5_isWord 113 = .ok (.iload 9, 2) := by decide +kernel
theorem dX5_isWord_115 : decode cX5_isWord 115 = .ok (.iconst 4, 1) := by decide +kernel
theorem dX5_isWord_116 : decode cX5_isWord 116 = .ok (.if_icmp .ne 8, 3) := by decide +kernel
theorem dX5_isWord_119 : decode cX5_isWord 119 = .ok (.iload 5, 2) := by decide +kernel
theorem dX5_isWord_121 : decode cX5_isWord 121 = .ok (.goto 5, 3) := by decide +kernel
theorem dX5_isWord_124 : decode cX5_isWord 124 = .ok (.iload 6, 2) := by decide +kernel
theorem dX5_isWord_126 : decode cX5_isWord 126 = .ok (.if_icmp .ne 7, 3) := by decide +kernel
theorem dX5_isWord_129 : decode cX5_isWord 129 = .ok (.iconst 1, 1) := by decide +kernel
theorem dX5_isWord_130 : decode cX5_isWord 130 = .ok (.goto 4, 3) := by decide +kernel
theorem dX5_isWord_133 : decode cX5_isWord 133 = .ok (.iconst 0, 1) := by decide +kernel
theorem dX5_isWord_134 : decode cX5_isWord 134 = .ok (.istore 8, 2) := by decide +kernel
theorem dX5_isWord_136 : decode cX5_isWord 136 = .ok (.iinc 9 1, 3) := by decide +kernel
theorem dX5_isWord_139 : decode cX5_isWord 139 = .ok (.goto (-90), 3) := by decide +kernel
theorem dX5_isWord_142 : decode cX5_isWord 142 = .ok (.iload 8, 2) := by decide +kernel
theorem dX5_isWord_144 : decode cX5_isWord 144 = .ok (.ireturn, 1) := by decide +kernel
theorem dX5_takes_0 : decode cX5_takes 0 = .ok (.aload_n 0, 1) := by decide +kernel
theorem dX5_takes_1 : decode cX5_takes 1 = .ok (.getfield 214, 3) := by decide +kernel
theorem dX5_takes_4 : decode cX5_takes 4 = .ok (.iconst 2, 1) := by decide +kernel
theorem dX5_takes_5 : decode cX5_takes 5 = .ok (.if_icmp .ne 18, 3) := by decide +kernel
theorem dX5_takes_8 : decode cX5_takes 8 = .ok (.aload_n 0, 1) := by decide +kernel
theorem dX5_takes_9 : decode cX5_takes 9 = .ok (.getfield 217, 3) := by decide +kernel
theorem dX5_takes_12 : decode cX5_takes 12 = .ok (.i2l, 1) := by decide +kernel
theorem dX5_takes_13 : decode cX5_takes 13 = .ok (.iload_n 2, 1) := by decide +kernel
theorem dX5_takes_14 : decode cX5_takes 14 = .ok (.i2l, 1) := by decide +kernel
theorem dX5_takes_15 : decode cX5_takes 15 = .ok (.iload_n 3, 1) := by decide +kernel
theorem dX5_takes_16 : decode cX5_takes 16 = .ok (.i2l, 1) := by decide +kernel
theorem dX5_takes_17 : decode cX5_takes 17 = .ok (.invokestatic 58, 3) := by decide +kernel
theorem dX5_takes_20 : decode cX5_takes 20 = .ok (.ifCond .ne 5, 3) := by decide +kernel
theorem dX5_takes_23 : decode cX5_takes 23 = .ok (.iconst 0, 1) := by decide +kernel
theorem dX5_takes_24 : decode cX5_takes 24 = .ok (.ireturn, 1) := by decide +kernel
theorem dX5_takes_25 : decode cX5_takes 25 = .ok (.aload_n 0, 1) := by decide +kernel
theorem dX5_takes_26 : decode cX5_takes 26 = .ok (.getfield 48, 3) := by decide +kernel
theorem dX5_takes_29 : decode cX5_takes 29 = .ok (.iload_n 1, 1) := by decide +kernel
theorem dX5_takes_30 : decode cX5_takes 30 = .ok (.aload_n 0, 1) := by decide +kernel
theorem dX5_takes_31 : decode cX5_takes 31 = .ok (.getfield 217, 3) := by decide +kernel
theorem dX5_takes_34 : decode cX5_takes 34 = .ok (.iastore, 1) := by decide +kernel
theorem dX5_takes_35 : decode cX5_takes 35 = .ok (.aload_n 0, 1) := by decide +kernel
theorem dX5_takes_36 : decode cX5_takes 36 = .ok (.invokevirtual 230, 3) := by decide +kernel
theorem dX5_takes_39 : decode cX5_takes 39 = .ok (.iconst 1, 1) := by decide +kernel
theorem dX5_takes_40 : decode cX5_takes 40 = .ok (.ireturn, 1) := by decide +kernel
theorem dX5_readsRoof_0 : decode cX5_readsRoof 0 = .ok (.aload_n 0, 1) := by decide +kernel
theorem dX5_readsRoof_1 : decode cX5_readsRoof 1 = .ok (.getfield 45, 3) := by decide +kernel
theorem dX5_readsRoof_4 : decode cX5_readsRoof 4 = .ok (.bipush 93, 2) := by decide +kernel
theorem dX5_readsRoof_6 : decode cX5_readsRoof 6 = .ok (.iaload, 1) := by decide +kernel
theorem dX5_readsRoof_7 : decode cX5_readsRoof 7 = .ok (.istore_n 1, 1) := by decide +kernel
theorem dX5_readsRoof_8 : decode cX5_readsRoof 8 = .ok (.iload_n 1, 1) := by decide +kernel
theorem dX5_readsRoof_9 : decode cX5_readsRoof 9 = .ok (.bipush 7, 2) := by decide +kernel
theorem dX5_readsRoof_11 : decode cX5_readsRoof 11 = .ok (.if_icmp .ne 5, 3) := by decide +kernel
theorem dX5_readsRoof_14 : decode cX5_readsRoof 14 = .ok (.iconst 0, 1) := by decide +kernel
theorem dX5_readsRoof_15 : decode cX5_readsRoof 15 = .ok (.ireturn, 1) := by decide +kernel
theorem dX5_readsRoof_16 : decode cX5_readsRoof 16 = .ok (.aload_n 0, 1) := by decide +kernel
theorem dX5_readsRoof_17 : decode cX5_readsRoof 17 = .ok (.invokevirtual 230, 3) := by decide +kernel
theorem dX5_readsRoof_20 : decode cX5_readsRoof 20 = .ok (.aload_n 0, 1) := by decide +kernel
theorem dX5_readsRoof_21 : decode cX5_readsRoof 21 = .ok (.iconst 0, 1) := by decide +kernel
theorem dX5_readsRoof_22 : decode cX5_readsRoof 22 = .ok (.iconst 0, 1) := by decide +kernel
theorem dX5_readsRoof_23 : decode cX5_readsRoof 23 = .ok (.iconst 5, 1) := by decide +kernel
theorem dX5_readsRoof_24 : decode cX5_readsRoof 24 = .ok (.invokevirtual 233, 3) := by decide +kernel
theorem dX5_readsRoof_27 : decode cX5_readsRoof 27 = .ok (.istore_n 2, 1) := by decide +kernel
theorem dX5_readsRoof_28 : decode cX5_readsRoof 28 = .ok (.iconst 1, 1) := by decide +kernel
theorem dX5_readsRoof_29 : decode cX5_readsRoof 29 = .ok (.istore_n 3, 1) := by decide +kernel
theorem dX5_readsRoof_30 : decode cX5_readsRoof 30 = .ok (.iload_n 3, 1) := by decide +kernel
theorem dX5_readsRoof_31 : decode cX5_readsRoof 31 = .ok (.bipush 6, 2) := by decide +kernel
theorem dX5_readsRoof_33 : decode cX5_readsRoof 33 = .ok (.if_icmp .ge 22, 3) := by decide +kernel
theorem dX5_readsRoof_36 : decode cX5_readsRoof 36 = .ok (.iload_n 2, 1) := by decide +kernel
theorem dX5_readsRoof_37 : decode cX5_readsRoof 37 = .ok (.ifCond .eq 18, 3) := by decide +kernel
theorem dX5_readsRoof_40 : decode cX5_readsRoof 40 = .ok (.aload_n 0, 1) := by decide +kernel
theorem dX5_readsRoof_41 : decode cX5_readsRoof 41 = .ok (.iload_n 3, 1) := by decide +kernel
theorem dX5_readsRoof_42 : decode cX5_readsRoof 42 = .ok (.iconst 0, 1) := by decide +kernel
theorem dX5_readsRoof_43 : decode cX5_readsRoof 43 = .ok (.bipush 9, 2) := by decide +kernel
theorem dX5_readsRoof_45 : decode cX5_readsRoof 45 = .ok (.invokevirtual 233, 3) := by decide +kernel
theorem dX5_readsRoof_48 : decode cX5_readsRoof 48 = .ok (.istore_n 2, 1) := by decide +kernel
theorem dX5_readsRoof_49 : decode cX5_readsRoof 49 = .ok (.iinc 3 1, 3) := by decide +kernel
theorem dX5_readsRoof_52 : decode cX5_readsRoof 52 = .ok (.goto (-22), 3) := by decide +kernel
theorem dX5_readsRoof_55 : decode cX5_readsRoof 55 = .ok (.aload_n 0, 1) := by decide +kernel
theorem dX5_readsRoof_56 : decode cX5_readsRoof 56 = .ok (.getfield 45, 3) := by decide +kernel
theorem dX5_readsRoof_59 : decode cX5_readsRoof 59 = .ok (.iload_n 1, 1) := by decide +kernel
theorem dX5_readsRoof_60 : decode cX5_readsRoof 60 = .ok (.aload_n 0, 1) := by decide +kernel
theorem dX5_readsRoof_61 : decode cX5_readsRoof 61 = .ok (.getfield 48, 3) := by decide +kernel
theorem dX5_readsRoof_64 : decode cX5_readsRoof 64 = .ok (.iconst 0, 1) := by decide +kernel
theorem dX5_readsRoof_65 : decode cX5_readsRoof 65 = .ok (.iaload, 1) := by decide +kernel
theorem dX5_readsRoof_66 : decode cX5_readsRoof 66 = .ok (.aload_n 0, 1) := by decide +kernel
theorem dX5_readsRoof_67 : decode cX5_readsRoof 67 = .ok (.getfield 48, 3) := by decide +kernel
theorem dX5_readsRoof_70 : decode cX5_readsRoof 70 = .ok (.iconst 1, 1) := by decide +kernel
theorem dX5_readsRoof_71 : decode cX5_readsRoof 71 = .ok (.iaload, 1) := by decide +kernel
theorem dX5_readsRoof_72 : decode cX5_readsRoof 72 = .ok (.aload_n 0, 1) := by decide +kernel
theorem dX5_readsRoof_73 : decode cX5_readsRoof 73 = .ok (.getfield 48, 3) := by decide +kernel
theorem dX5_readsRoof_76 : decode cX5_readsRoof 76 = .ok (.iconst 2, 1) := by decide +kernel
theorem dX5_readsRoof_77 : decode cX5_readsRoof 77 = .ok (.iaload, 1) := by decide +kernel
theorem dX5_readsRoof_78 : decode cX5_readsRoof 78 = .ok (.aload_n 0, 1) := by decide +kernel
theorem dX5_readsRoof_79 : decode cX5_readsRoof 79 = .ok (.getfield 48, 3) := by decide +kernel
theorem dX5_readsRoof_82 : decode cX5_readsRoof 82 = .ok (.iconst 3, 1) := by decide +kernel
theorem dX5_readsRoof_83 : decode cX5_readsRoof 83 = .ok (.iaload, 1) := by decide +kernel
theorem dX5_readsRoof_84 : decode cX5_readsRoof 84 = .ok (.aload_n 0, 1) := by decide +kernel
theorem dX5_readsRoof_85 : decode cX5_readsRoof 85 = .ok (.getfield 48, 3) := by decide +kernel
theorem dX5_readsRoof_88 : decode cX5_readsRoof 88 = .ok (.iconst 4, 1) := by decide +kernel
theorem dX5_readsRoof_89 : decode cX5_readsRoof 89 = .ok (.iaload, 1) := by decide +kernel
theorem dX5_readsRoof_90 : decode cX5_readsRoof 90 = .ok (.aload_n 0, 1) := by decide +kernel
theorem dX5_readsRoof_91 : decode cX5_readsRoof 91 = .ok (.getfield 48, 3) := by decide +kernel
theorem dX5_readsRoof_94 : decode cX5_readsRoof 94 = .ok (.iconst 5, 1) := by decide +kernel
theorem dX5_readsRoof_95 : decode cX5_readsRoof 95 = .ok (.iaload, 1) := by decide +kernel
theorem dX5_readsRoof_96 : decode cX5_readsRoof 96 = .ok (.invokestatic 80, 3) := by decide +kernel
theorem dX5_readsRoof_99 : decode cX5_readsRoof 99 = .ok (.aload_n 0, 1) := by decide +kernel
theorem dX5_readsRoof_100 : decode cX5_readsRoof 100 = .ok (.getfield 45, 3) := by decide +kernel
theorem dX5_readsRoof_103 : decode cX5_readsRoof 103 = .ok (.bipush 93, 2) := by decide +kernel
theorem dX5_readsRoof_105 : decode cX5_readsRoof 105 = .ok (.dup2, 1) := by decide +kernel
theorem dX5_readsRoof_106 : decode cX5_readsRoof 106 = .ok (.iaload, 1) := by decide +kernel
theorem dX5_readsRoof_107 : decode cX5_readsRoof 107 = .ok (.iconst 1, 1) := by decide +kernel
theorem dX5_readsRoof_108 : decode cX5_readsRoof 108 = .ok (.iadd, 1) := by decide +kernel
theorem dX5_readsRoof_109 : decode cX5_readsRoof 109 = .ok (.iastore, 1) := by decide +kernel
theorem dX5_readsRoof_110 : decode cX5_readsRoof 110 = .ok (.iload_n 2, 1) := by decide +kernel
theorem dX5_readsRoof_111 : decode cX5_readsRoof 111 = .ok (.ireturn, 1) := by decide +kernel
theorem dX5_readsStorm_0 : decode cX5_readsStorm 0 = .ok (.aload_n 0, 1) := by decide +kernel
theorem dX5_readsStorm_1 : decode cX5_readsStorm 1 = .ok (.getfield 45, 3) := by decide +kernel
theorem dX5_readsStorm_4 : decode cX5_readsStorm 4 = .ok (.bipush 94, 2) := by decide +kernel
theorem dX5_readsStorm_6 : decode cX5_readsStorm 6 = .ok (.iaload, 1) := by decide +kernel
theorem dX5_readsStorm_7 : decode cX5_readsStorm 7 = .ok (.istore_n 1, 1) := by decide +kernel
theorem dX5_readsStorm_8 : decode cX5_readsStorm 8 = .ok (.iload_n 1, 1) := by decide +kernel
theorem dX5_readsStorm_9 : decode cX5_readsStorm 9 = .ok (.bipush 6, 2) := by decide +kernel
theorem dX5_readsStorm_11 : decode cX5_readsStorm 11 = .ok (.if_icmp .ne 5, 3) := by decide +kernel
theorem dX5_readsStorm_14 : decode cX5_readsStorm 14 = .ok (.iconst 0, 1) := by decide +kernel
theorem dX5_readsStorm_15 : decode cX5_readsStorm 15 = .ok (.ireturn, 1) := by decide +kernel
theorem dX5_readsStorm_16 : decode cX5_readsStorm 16 = .ok (.aload_n 0, 1) := by decide +kernel
theorem dX5_readsStorm_17 : decode cX5_readsStorm 17 = .ok (.invokevirtual 230, 3) := by decide +kernel
theorem dX5_readsStorm_20 : decode cX5_readsStorm 20 = .ok (.aload_n 0, 1) := by decide +kernel
theorem dX5_readsStorm_21 : decode cX5_readsStorm 21 = .ok (.iconst 0, 1) := by decide +kernel
theorem dX5_readsStorm_22 : decode cX5_readsStorm 22 = .ok (.iconst 0, 1) := by decide +kernel
theorem dX5_readsStorm_23 : decode cX5_readsStorm 23 = .ok (.bipush 6, 2) := by decide +kernel
theorem dX5_readsStorm_25 : decode cX5_readsStorm 25 = .ok (.invokevirtual 233, 3) := by decide +kernel
theorem dX5_readsStorm_28 : decode cX5_readsStorm 28 = .ok (.ifCond .eq 51, 3) := by decide +kernel
theorem dX5_readsStorm_31 : decode cX5_readsStorm 31 = .ok (.aload_n 0, 1) := by decide +kernel
theorem dX5_readsStorm_32 : decode cX5_readsStorm 32 = .ok (.iconst 1, 1) := by decide +kernel
theorem dX5_readsStorm_33 : decode cX5_readsStorm 33 = .ok (.aload_n 0, 1) := by decide +kernel
theorem dX5_readsStorm_34 : decode cX5_readsStorm 34 = .ok (.getfield 48, 3) := by decide +kernel
end
section
theorem dX5_readsStorm_37 : decode cX5_readsStorm 37 = .ok (.iconst 0, 1) := by decide +kernel
theorem dX5_readsStorm_38 : decode cX5_readsStorm 38 = .ok (.iaload, 1) := by decide +kernel
theorem dX5_readsStorm_39 : decode cX5_readsStorm 39 = .ok (.bipush 6, 2) := by decide +kernel
theorem dX5_readsStorm_41 : decode cX5_readsStorm 41 = .ok (.invokevirtual 233, 3) := by decide +kernel
theorem dX5_readsStorm_44 : decode cX5_readsStorm 44 = .ok (.ifCond .eq 35, 3) := by decide +kernel
theorem dX5_readsStorm_47 : decode cX5_readsStorm 47 = .ok (.aload_n 0, 1) := by decide +kernel
theorem dX5_readsStorm_48 : decode cX5_readsStorm 48 = .ok (.iconst 2, 1) := by decide +kernel
theorem dX5_readsStorm_49 : decode cX5_readsStorm 49 = .ok (.iconst 0, 1) := by decide +kernel
theorem dX5_readsStorm_50 : decode cX5_readsStorm 50 = .ok (.iconst 1, 1) := by decide +kernel
theorem dX5_readsStorm_51 : decode cX5_readsStorm 51 = .ok (.invokevirtual 233, 3) := by decide +kernel
theorem dX5_readsStorm_54 : decode cX5_readsStorm 54 = .ok (.ifCond .eq 25, 3) := by decide +kernel
theorem dX5_readsStorm_57 : decode cX5_readsStorm 57 = .ok (.aload_n 0, 1) := by decide +kernel
theorem dX5_readsStorm_58 : decode cX5_readsStorm 58 = .ok (.iconst 3, 1) := by decide +kernel
theorem dX5_readsStorm_59 : decode cX5_readsStorm 59 = .ok (.iconst 1, 1) := by decide +kernel
theorem dX5_readsStorm_60 : decode cX5_readsStorm 60 = .ok (.bipush 9, 2) := by decide +kernel
theorem dX5_readsStorm_62 : decode cX5_readsStorm 62 = .ok (.invokevirtual 233, 3) := by decide +kernel
theorem dX5_readsStorm_65 : decode cX5_readsStorm 65 = .ok (.ifCond .eq 14, 3) := by decide +kernel
theorem dX5_readsStorm_68 : decode cX5_readsStorm 68 = .ok (.aload_n 0, 1) := by decide +kernel
theorem dX5_readsStorm_69 : decode cX5_readsStorm 69 = .ok (.iconst 4, 1) := by decide +kernel
theorem dX5_readsStorm_70 : decode cX5_readsStorm 70 = .ok (.iconst 1, 1) := by decide +kernel
theorem dX5_readsStorm_71 : decode cX5_readsStorm 71 = .ok (.bipush 9, 2) := by decide +kernel
theorem dX5_readsStorm_73 : decode cX5_readsStorm 73 = .ok (.invokevirtual 233, 3) := by decide +kernel
theorem dX5_readsStorm_76 : decode cX5_readsStorm 76 = .ok (.ifCond .ne 5, 3) := by decide +kernel
theorem dX5_readsStorm_79 : decode cX5_readsStorm 79 = .ok (.iconst 0, 1) := by decide +kernel
theorem dX5_readsStorm_80 : decode cX5_readsStorm 80 = .ok (.ireturn, 1) := by decide +kernel
theorem dX5_readsStorm_81 : decode cX5_readsStorm 81 = .ok (.aload_n 0, 1) := by decide +kernel
theorem dX5_readsStorm_82 : decode cX5_readsStorm 82 = .ok (.getfield 45, 3) := by decide +kernel
theorem dX5_readsStorm_85 : decode cX5_readsStorm 85 = .ok (.iload_n 1, 1) := by decide +kernel
theorem dX5_readsStorm_86 : decode cX5_readsStorm 86 = .ok (.aload_n 0, 1) := by decide +kernel
theorem dX5_readsStorm_87 : decode cX5_readsStorm 87 = .ok (.getfield 48, 3) := by decide +kernel
theorem dX5_readsStorm_90 : decode cX5_readsStorm 90 = .ok (.iconst 0, 1) := by decide +kernel
theorem dX5_readsStorm_91 : decode cX5_readsStorm 91 = .ok (.iaload, 1) := by decide +kernel
theorem dX5_readsStorm_92 : decode cX5_readsStorm 92 = .ok (.aload_n 0, 1) := by decide +kernel
theorem dX5_readsStorm_93 : decode cX5_readsStorm 93 = .ok (.getfield 48, 3) := by decide +kernel
theorem dX5_readsStorm_96 : decode cX5_readsStorm 96 = .ok (.iconst 1, 1) := by decide +kernel
theorem dX5_readsStorm_97 : decode cX5_readsStorm 97 = .ok (.iaload, 1) := by decide +kernel
theorem dX5_readsStorm_98 : decode cX5_readsStorm 98 = .ok (.aload_n 0, 1) := by decide +kernel
theorem dX5_readsStorm_99 : decode cX5_readsStorm 99 = .ok (.getfield 48, 3) := by decide +kernel
theorem dX5_readsStorm_102 : decode cX5_readsStorm 102 = .ok (.iconst 2, 1) := by decide +kernel
theorem dX5_readsStorm_103 : decode cX5_readsStorm 103 = .ok (.iaload, 1) := by decide +kernel
theorem dX5_readsStorm_104 : decode cX5_readsStorm 104 = .ok (.aload_n 0, 1) := by decide +kernel
theorem dX5_readsStorm_105 : decode cX5_readsStorm 105 = .ok (.getfield 48, 3) := by decide +kernel
theorem dX5_readsStorm_108 : decode cX5_readsStorm 108 = .ok (.iconst 3, 1) := by decide +kernel
theorem dX5_readsStorm_109 : decode cX5_readsStorm 109 = .ok (.iaload, 1) := by decide +kernel
theorem dX5_readsStorm_110 : decode cX5_readsStorm 110 = .ok (.aload_n 0, 1) := by decide +kernel
theorem dX5_readsStorm_111 : decode cX5_readsStorm 111 = .ok (.getfield 48, 3) := by decide +kernel
theorem dX5_readsStorm_114 : decode cX5_readsStorm 114 = .ok (.iconst 4, 1) := by decide +kernel
theorem dX5_readsStorm_115 : decode cX5_readsStorm 115 = .ok (.iaload, 1) := by decide +kernel
theorem dX5_readsStorm_116 : decode cX5_readsStorm 116 = .ok (.invokestatic 86, 3) := by decide +kernel
theorem dX5_readsStorm_119 : decode cX5_readsStorm 119 = .ok (.aload_n 0, 1) := by decide +kernel
theorem dX5_readsStorm_120 : decode cX5_readsStorm 120 = .ok (.getfield 45, 3) := by decide +kernel
theorem dX5_readsStorm_123 : decode cX5_readsStorm 123 = .ok (.bipush 94, 2) := by decide +kernel
theorem dX5_readsStorm_125 : decode cX5_readsStorm 125 = .ok (.dup2, 1) := by decide +kernel
theorem dX5_readsStorm_126 : decode cX5_readsStorm 126 = .ok (.iaload, 1) := by decide +kernel
theorem dX5_readsStorm_127 : decode cX5_readsStorm 127 = .ok (.iconst 1, 1) := by decide +kernel
theorem dX5_readsStorm_128 : decode cX5_readsStorm 128 = .ok (.iadd, 1) := by decide +kernel
theorem dX5_readsStorm_129 : decode cX5_readsStorm 129 = .ok (.iastore, 1) := by decide +kernel
theorem dX5_readsStorm_130 : decode cX5_readsStorm 130 = .ok (.iconst 1, 1) := by decide +kernel
theorem dX5_readsStorm_131 : decode cX5_readsStorm 131 = .ok (.ireturn, 1) := by decide +kernel
theorem dX5_readsCannon_0 : decode cX5_readsCannon 0 = .ok (.aload_n 0, 1) := by decide +kernel
theorem dX5_readsCannon_1 : decode cX5_readsCannon 1 = .ok (.invokevirtual 230, 3) := by decide +kernel
theorem dX5_readsCannon_4 : decode cX5_readsCannon 4 = .ok (.aload_n 0, 1) := by decide +kernel
theorem dX5_readsCannon_5 : decode cX5_readsCannon 5 = .ok (.getfield 214, 3) := by decide +kernel
theorem dX5_readsCannon_8 : decode cX5_readsCannon 8 = .ok (.iconst 2, 1) := by decide +kernel
theorem dX5_readsCannon_9 : decode cX5_readsCannon 9 = .ok (.if_icmp .ne 34, 3) := by decide +kernel
theorem dX5_readsCannon_12 : decode cX5_readsCannon 12 = .ok (.aload_n 0, 1) := by decide +kernel
theorem dX5_readsCannon_13 : decode cX5_readsCannon 13 = .ok (.getfield 217, 3) := by decide +kernel
theorem dX5_readsCannon_16 : decode cX5_readsCannon 16 = .ok (.i2l, 1) := by decide +kernel
theorem dX5_readsCannon_17 : decode cX5_readsCannon 17 = .ok (.lconst 0, 1) := by decide +kernel
theorem dX5_readsCannon_18 : decode cX5_readsCannon 18 = .ok (.ldc2_w 84, 3) := by decide +kernel
theorem dX5_readsCannon_21 : decode cX5_readsCannon 21 = .ok (.invokestatic 58, 3) := by decide +kernel
theorem dX5_readsCannon_24 : decode cX5_readsCannon 24 = .ok (.ifCond .eq 19, 3) := by decide +kernel
theorem dX5_readsCannon_27 : decode cX5_readsCannon 27 = .ok (.aload_n 0, 1) := by decide +kernel
theorem dX5_readsCannon_28 : decode cX5_readsCannon 28 = .ok (.getfield 45, 3) := by decide +kernel
theorem dX5_readsCannon_31 : decode cX5_readsCannon 31 = .ok (.bipush 86, 2) := by decide +kernel
theorem dX5_readsCannon_33 : decode cX5_readsCannon 33 = .ok (.aload_n 0, 1) := by decide +kernel
theorem dX5_readsCannon_34 : decode cX5_readsCannon 34 = .ok (.getfield 217, 3) := by decide +kernel
theorem dX5_readsCannon_37 : decode cX5_readsCannon 37 = .ok (.iadd, 1) := by decide +kernel
theorem dX5_readsCannon_38 : decode cX5_readsCannon 38 = .ok (.iaload, 1) := by decide +kernel
theorem dX5_readsCannon_39 : decode cX5_readsCannon 39 = .ok (.iconst 1, 1) := by decide +kernel
theorem dX5_readsCannon_40 : decode cX5_readsCannon 40 = .ok (.if_icmp .ne 5, 3) := by decide +kernel
theorem dX5_readsCannon_43 : decode cX5_readsCannon 43 = .ok (.iconst 0, 1) := by decide +kernel
theorem dX5_readsCannon_44 : decode cX5_readsCannon 44 = .ok (.ireturn, 1) := by decide +kernel
theorem dX5_readsCannon_45 : decode cX5_readsCannon 45 = .ok (.aload_n 0, 1) := by decide +kernel
theorem dX5_readsCannon_46 : decode cX5_readsCannon 46 = .ok (.getfield 45, 3) := by decide +kernel
theorem dX5_readsCannon_49 : decode cX5_readsCannon 49 = .ok (.bipush 86, 2) := by decide +kernel
theorem dX5_readsCannon_51 : decode cX5_readsCannon 51 = .ok (.aload_n 0, 1) := by decide +kernel
theorem dX5_readsCannon_52 : decode cX5_readsCannon 52 = .ok (.getfield 217, 3) := by decide +kernel
theorem dX5_readsCannon_55 : decode cX5_readsCannon 55 = .ok (.iadd, 1) := by decide +kernel
theorem dX5_readsCannon_56 : decode cX5_readsCannon 56 = .ok (.iconst 1, 1) := by decide +kernel
theorem dX5_readsCannon_57 : decode cX5_readsCannon 57 = .ok (.iastore, 1) := by decide +kernel
theorem dX5_readsCannon_58 : decode cX5_readsCannon 58 = .ok (.aload_n 0, 1) := by decide +kernel
theorem dX5_readsCannon_59 : decode cX5_readsCannon 59 = .ok (.invokevirtual 230, 3) := by decide +kernel
theorem dX5_readsCannon_62 : decode cX5_readsCannon 62 = .ok (.iconst 1, 1) := by decide +kernel
theorem dX5_readsCannon_63 : decode cX5_readsCannon 63 = .ok (.ireturn, 1) := by decide +kernel
theorem dX5_readsItem_0 : decode cX5_readsItem 0 = .ok (.aload_n 0, 1) := by decide +kernel
theorem dX5_readsItem_1 : decode cX5_readsItem 1 = .ok (.bipush 114, 2) := by decide +kernel
theorem dX5_readsItem_3 : decode cX5_readsItem 3 = .ok (.bipush 111, 2) := by decide +kernel
theorem dX5_readsItem_5 : decode cX5_readsItem 5 = .ok (.bipush 111, 2) := by decide +kernel
theorem dX5_readsItem_7 : decode cX5_readsItem 7 = .ok (.bipush 102, 2) := by decide +kernel
theorem dX5_readsItem_9 : decode cX5_readsItem 9 = .ok (.iconst 0, 1) := by decide +kernel
theorem dX5_readsItem_10 : decode cX5_readsItem 10 = .ok (.iconst 0, 1) := by decide +kernel
theorem dX5_readsItem_11 : decode cX5_readsItem 11 = .ok (.invokevirtual 237, 3) := by decide +kernel
theorem dX5_readsItem_14 : decode cX5_readsItem 14 = .ok (.ifCond .eq 8, 3) := by decide +kernel
theorem dX5_readsItem_17 : decode cX5_readsItem 17 = .ok (.aload_n 0, 1) := by decide +kernel
theorem dX5_readsItem_18 : decode cX5_readsItem 18 = .ok (.invokevirtual 240, 3) := by decide +kernel
theorem dX5_readsItem_21 : decode cX5_readsItem 21 = .ok (.ireturn, 1) := by decide +kernel
theorem dX5_readsItem_22 : decode cX5_readsItem 22 = .ok (.aload_n 0, 1) := by decide +kernel
theorem dX5_readsItem_23 : decode cX5_readsItem 23 = .ok (.bipush 115, 2) := by decide +kernel
theorem dX5_readsItem_25 : decode cX5_readsItem 25 = .ok (.bipush 116, 2) := by decide +kernel
theorem dX5_readsItem_27 : decode cX5_readsItem 27 = .ok (.bipush 111, 2) := by decide +kernel
theorem dX5_readsItem_29 : decode cX5_readsItem 29 = .ok (.bipush 114, 2) := by decide +kernel
theorem dX5_readsItem_31 : decode cX5_readsItem 31 = .ok (.bipush 109, 2) := by decide +kernel
theorem dX5_readsItem_33 : decode cX5_readsItem 33 = .ok (.iconst 0, 1) := by decide +kernel
theorem dX5_readsItem_34 : decode cX5_readsItem 34 = .ok (.invokevirtual 237, 3) := by decide +kernel
theorem dX5_readsItem_37 : decode cX5_readsItem 37 = .ok (.ifCond .eq 8, 3) := by decide +kernel
theorem dX5_readsItem_40 : decode cX5_readsItem 40 = .ok (.aload_n 0, 1) := by decide +kernel
theorem dX5_readsItem_41 : decode cX5_readsItem 41 = .ok (.invokevirtual 244, 3) := by decide +kernel
theorem dX5_readsItem_44 : decode cX5_readsItem 44 = .ok (.ireturn, 1) := by decide +kernel
theorem dX5_readsItem_45 : decode cX5_readsItem 45 = .ok (.aload_n 0, 1) := by decide +kernel
theorem dX5_readsItem_46 : decode cX5_readsItem 46 = .ok (.bipush 99, 2) := by decide +kernel
theorem dX5_readsItem_48 : decode cX5_readsItem 48 = .ok (.bipush 97, 2) := by decide +kernel
theorem dX5_readsItem_50 : decode cX5_readsItem 50 = .ok (.bipush 110, 2) := by decide +kernel
theorem dX5_readsItem_52 : decode cX5_readsItem 52 = .ok (.bipush 110, 2) := by decide +kernel
theorem dX5_readsItem_54 : decode cX5_readsItem 54 = .ok (.bipush 111, 2) := by decide +kernel
theorem dX5_readsItem_56 : decode cX5_readsItem 56 = .ok (.bipush 110, 2) := by decide +kernel
theorem dX5_readsItem_58 : decode cX5_readsItem 58 = .ok (.invokevirtual 237, 3) := by decide +kernel
theorem dX5_readsItem_61 : decode cX5_readsItem 61 = .ok (.ifCond .eq 14, 3) := by decide +kernel
theorem dX5_readsItem_64 : decode cX5_readsItem 64 = .ok (.aload_n 0, 1) := by decide +kernel
theorem dX5_readsItem_65 : decode cX5_readsItem 65 = .ok (.invokevirtual 247, 3) := by decide +kernel
theorem dX5_readsItem_68 : decode cX5_readsItem 68 = .ok (.ifCond .eq 7, 3) := by decide +kernel
theorem dX5_readsItem_71 : decode cX5_readsItem 71 = .ok (.iconst 1, 1) := by decide +kernel
theorem dX5_readsItem_72 : decode cX5_readsItem 72 = .ok (.goto 4, 3) := by decide +kernel
theorem dX5_readsItem_75 : decode cX5_readsItem 75 = .ok (.iconst 0, 1) := by decide +kernel
theorem dX5_readsItem_76 : decode cX5_readsItem 76 = .ok (.ireturn, 1) := by decide +kernel
theorem dX5_read_0 : decode cX5_read 0 = .ok (.iconst 0, 1) := by decide +kernel
theorem dX5_read_1 : decode cX5_read 1 = .ok (.istore_n 1, 1) := by decide +kernel
theorem dX5_read_2 : decode cX5_read 2 = .ok (.iload_n 1, 1) := by decide +kernel
theorem dX5_read_3 : decode cX5_read 3 = .ok (.bipush 95, 2) := by decide +kernel
theorem dX5_read_5 : decode cX5_read 5 = .ok (.if_icmp .ge 16, 3) := by decide +kernel
theorem dX5_read_8 : decode cX5_read 8 = .ok (.aload_n 0, 1) := by decide +kernel
theorem dX5_read_9 : decode cX5_read 9 = .ok (.getfield 45, 3) := by decide +kernel
theorem dX5_read_12 : decode cX5_read 12 = .ok (.iload_n 1, 1) := by decide +kernel
theorem dX5_read_13 : decode cX5_read 13 = .ok (.iconst 0, 1) := by decide +kernel
theorem dX5_read_14 : decode cX5_read 14 = .ok (.iastore, 1) := by decide +kernel
theorem dX5_read_15 : decode cX5_read 15 = .ok (.iinc 1 1, 3) := by decide +kernel
theorem dX5_read_18 : decode cX5_read 18 = .ok (.goto (-16), 3) := by decide +kernel
theorem dX5_read_21 : decode cX5_read 21 = .ok (.iconst 0, 1) := by decide +kernel
theorem dX5_read_22 : decode cX5_read 22 = .ok (.istore_n 1, 1) := by decide +kernel
theorem dX5_read_23 : decode cX5_read 23 = .ok (.aload_n 0, 1) := by decide +kernel
theorem dX5_read_24 : decode cX5_read 24 = .ok (.iconst 0, 1) := by decide +kernel
theorem dX5_read_25 : decode cX5_read 25 = .ok (.invokevirtual 226, 3) := by decide +kernel
theorem dX5_read_28 : decode cX5_read 28 = .ok (.aload_n 0, 1) := by decide +kernel
theorem dX5_read_29 : decode cX5_read 29 = .ok (.getfield 214, 3) := by decide +kernel
theorem dX5_read_32 : decode cX5_read 32 = .ok (.ifCond .eq 36, 3) := by decide +kernel
theorem dX5_read_35 : decode cX5_read 35 = .ok (.aload_n 0, 1) := by decide +kernel
theorem dX5_read_36 : decode cX5_read 36 = .ok (.invokevirtual 250, 3) := by decide +kernel
theorem dX5_read_39 : decode cX5_read 39 = .ok (.ifCond .eq 11, 3) := by decide +kernel
theorem dX5_read_42 : decode cX5_read 42 = .ok (.aload_n 0, 1) := by decide +kernel
theorem dX5_read_43 : decode cX5_read 43 = .ok (.getfield 214, 3) := by decide +kernel
theorem dX5_read_46 : decode cX5_read 46 = .ok (.iconst 3, 1) := by decide +kernel
theorem dX5_read_47 : decode cX5_read 47 = .ok (.if_icmp .eq 11, 3) := by decide +kernel
theorem dX5_read_50 : decode cX5_read 50 = .ok (.bipush (-10), 2) := by decide +kernel
theorem dX5_read_52 : decode cX5_read 52 = .ok (.aload_n 0, 1) := by decide +kernel
theorem dX5_read_53 : decode cX5_read 53 = .ok (.getfield 208, 3) := by decide +kernel
theorem dX5_read_56 : decode cX5_read 56 = .ok (.isub, 1) := by decide +kernel
theorem dX5_read_57 : decode cX5_read 57 = .ok (.ireturn, 1) := by decide +kernel
theorem dX5_read_58 : decode cX5_read 58 = .ok (.aload_n 0, 1) := by decide +kernel
theorem dX5_read_59 : decode cX5_read 59 = .ok (.invokevirtual 230, 3) := by decide +kernel
theorem dX5_read_62 : decode cX5_read 62 = .ok (.iinc 1 1, 3) := by decide +kernel
theorem dX5_read_65 : decode cX5_read 65 = .ok (.goto (-37), 3) := by decide +kernel
theorem dX5_read_68 : decode cX5_read 68 = .ok (.iconst 0, 1) := by decide +kernel
theorem dX5_read_69 : decode cX5_read 69 = .ok (.istore_n 2, 1) := by decide +kernel
theorem dX5_read_70 : decode cX5_read 70 = .ok (.iload_n 2, 1) := by decide +kernel
theorem dX5_read_71 : decode cX5_read 71 = .ok (.bipush 95, 2) := by decide +kernel
theorem dX5_read_73 : decode cX5_read 73 = .ok (.if_icmp .ge 21, 3) := by decide +kernel
theorem dX5_read_76 : decode cX5_read 76 = .ok (.aload_n 0, 1) := by decide +kernel
theorem dX5_read_77 : decode cX5_read 77 = .ok (.getfield 7, 3) := by decide +kernel
theorem dX5_read_80 : decode cX5_read 80 = .ok (.iload_n 2, 1) := by decide +kernel
theorem dX5_read_81 : decode cX5_read 81 = .ok (.aload_n 0, 1) := by decide +kernel
theorem dX5_read_82 : decode cX5_read 82 = .ok (.getfield 45, 3) := by decide +kernel
theorem dX5_read_85 : decode cX5_read 85 = .ok (.iload_n 2, 1) := by decide +kernel
theorem dX5_read_86 : decode cX5_read 86 = .ok (.iaload, 1) := by decide +kernel
theorem dX5_read_87 : decode cX5_read 87 = .ok (.iastore, 1) := by decide +kernel
theorem dX5_read_88 : decode cX5_read 88 = .ok (.iinc 2 1, 3) := by decide +kernel
theorem dX5_read_91 : decode cX5_read 91 = .ok (.goto (-21), 3) := by decide +kernel
theorem dX5_read_94 : decode cX5_read 94 = .ok (.aload_n 0, 1) := by decide +kernel
theorem dX5_read_95 : decode cX5_read 95 = .ok (.getfield 7, 3) := by decide +kernel
theorem dX5_read_98 : decode cX5_read 98 = .ok (.bipush 95, 2) := by decide +kernel
theorem dX5_read_100 : decode cX5_read 100 = .ok (.iconst 0, 1) := by decide +kernel
theorem dX5_read_101 : decode cX5_read 101 = .ok (.iastore, 1) := by decide +kernel
theorem dX5_read_102 : decode cX5_read 102 = .ok (.aload_n 0, 1) := by decide +kernel
theorem dX5_read_103 : decode cX5_read 103 = .ok (.getfield 7, 3) := by decide +kernel
theorem dX5_read_106 : decode cX5_read 106 = .ok (.bipush 96, 2) := by decide +kernel
theorem dX5_read_108 : decode cX5_read 108 = .ok (.iconst 0, 1) := by decide +kernel
theorem dX5_read_109 : decode cX5_read 109 = .ok (.iastore, 1) := by decide +kernel
theorem dX5_read_110 : decode cX5_read 110 = .ok (.iload_n 1, 1) := by decide +kernel
theorem dX5_read_111 : decode cX5_read 111 = .ok (.ireturn, 1) := by decide +kernel
theorem dX5_part_0 : decode cX5_part 0 = .ok (.iload_n 1, 1) := by decide +kernel
theorem dX5_part_1 : decode cX5_part 1 = .ok (.ifCond .ne 10, 3) := by decide +kernel
theorem dX5_part_4 : decode cX5_part 4 = .ok (.aload_n 0, 1) := by decide +kernel
theorem dX5_part_5 : decode cX5_part 5 = .ok (.getfield 51, 3) := by decide +kernel
theorem dX5_part_8 : decode cX5_part 8 = .ok (.goto 23, 3) := by decide +kernel
theorem dX5_part_11 : decode cX5_part 11 = .ok (.iload_n 1, 1) := by decide +kernel
theorem dX5_part_12 : decode cX5_part 12 = .ok (.iconst 1, 1) := by decide +kernel
theorem dX5_part_13 : decode cX5_part 13 = .ok (.if_icmp .ne 10, 3) := by decide +kernel
theorem dX5_part_16 : decode cX5_part 16 = .ok (.aload_n 0, 1) := by decide +kernel
theorem dX5_part_17 : decode cX5_part 17 = .ok (.getfield 23, 3) := by decide +kernel
theorem dX5_part_20 : decode cX5_part 20 = .ok (.goto 11, 3) := by decide +kernel
theorem dX5_part_23 : decode cX5_part 23 = .ok (.aload_n 0, 1) := by decide +kernel
theorem dX5_part_24 : decode cX5_part 24 = .ok (.sipush (-1000), 3) := by decide +kernel
theorem dX5_part_27 : decode cX5_part 27 = .ok (.invokevirtual 73, 3) := by decide +kernel
theorem dX5_part_30 : decode cX5_part 30 = .ok (.i2l, 1) := by decide +kernel
theorem dX5_part_31 : decode cX5_part 31 = .ok (.lreturn, 1) := by decide +kernel
theorem dX5_image_0 : decode cX5_image 0 = .ok (.iload_n 1, 1) := by decide +kernel
theorem dX5_image_1 : decode cX5_image 1 = .ok (.i2l, 1) := by decide +kernel
theorem dX5_image_2 : decode cX5_image 2 = .ok (.lconst 0, 1) := by decide +kernel
theorem dX5_image_3 : decode cX5_image 3 = .ok (.lconst 1, 1) := by decide +kernel
theorem dX5_image_4 : decode cX5_image 4 = .ok (.invokestatic 58, 3) := by decide +kernel
theorem dX5_image_7 : decode cX5_image 7 = .ok (.ifCond .ne 10, 3) := by decide +kernel
theorem dX5_image_10 : decode cX5_image 10 = .ok (.aload_n 0, 1) := by decide +kernel
theorem dX5_image_11 : decode cX5_image 11 = .ok (.bipush (-2), 2) := by decide +kernel
theorem dX5_image_13 : decode cX5_image 13 = .ok (.invokevirtual 73, 3) := by decide +kernel
theorem dX5_image_16 : decode cX5_image 16 = .ok (.ireturn, 1) := by decide +kernel
theorem dX5_image_17 : decode cX5_image 17 = .ok (.iconst 0, 1) := by decide +kernel
theorem dX5_image_18 : decode cX5_image 18 = .ok (.istore_n 2, 1) := by decide +kernel
theorem dX5_image_19 : decode cX5_image 19 = .ok (.iload_n 2, 1) := by decide +kernel
theorem dX5_image_20 : decode cX5_image 20 = .ok (.sipush 382, 3) := by decide +kernel
theorem dX5_image_23 : decode cX5_image 23 = .ok (.if_icmp .ge 27, 3) := by decide +kernel
theorem dX5_image_26 : decode cX5_image 26 = .ok (.aload_n 0, 1) := by decide +kernel
theorem dX5_image_27 : decode cX5_image 27 = .ok (.getfield 13, 3) := by decide +kernel
theorem dX5_image_30 : decode cX5_image 30 = .ok (.sipush 382, 3) := by decide +kernel
theorem dX5_image_33 : decode cX5_image 33 = .ok (.iload_n 1, 1) := by decide +kernel
theorem dX5_image_34 : decode cX5_image 34 = .ok (.imul, 1) := by decide +kernel
theorem dX5_image_35 : decode cX5_image 35 = .ok (.iload_n 2, 1) := by decide +kernel
theorem dX5_image_36 : decode cX5_image 36 = .ok (.iadd, 1) := by decide +kernel
theorem dX5_image_37 : decode cX5_image 37 = .ok (.aload_n 0, 1) := by decide +kernel
theorem dX5_image_38 : decode cX5_image 38 = .ok (.getfield 7, 3) := by decide +kernel
theorem dX5_image_41 : decode cX5_image 41 = .ok (.iload_n 2, 1) := by decide +kernel
theorem dX5_image_42 : decode cX5_image 42 = .ok (.iaload, 1) := by decide +kernel
theorem dX5_image_43 : decode cX5_image 43 = .ok (.iastore, 1) := by decide +kernel
theorem dX5_image_44 : decode cX5_image 44 = .ok (.iinc 2 1, 3) := by decide +kernel
theorem dX5_image_47 : decode cX5_image 47 = .ok (.goto (-28), 3) := by decide +kernel
theorem dX5_image_50 : decode cX5_image 50 = .ok (.aload_n 0, 1) := by decide +kernel
theorem dX5_image_51 : decode cX5_image 51 = .ok (.getfield 16, 3) := by decide +kernel
theorem dX5_image_54 : decode cX5_image 54 = .ok (.iload_n 1, 1) := by decide +kernel
theorem dX5_image_55 : decode cX5_image 55 = .ok (.iconst 1, 1) := by decide +kernel
theorem dX5_image_56 : decode cX5_image 56 = .ok (.bastore, 1) := by decide +kernel
theorem dX5_image_57 : decode cX5_image 57 = .ok (.iconst 1, 1) := by decide +kernel
theorem dX5_image_58 : decode cX5_image 58 = .ok (.ireturn, 1) := by decide +kernel
theorem dX5_from_0 : decode cX5_from 0 = .ok (.iload_n 1, 1) := by decide +kernel
theorem dX5_from_1 : decode cX5_from 1 = .ok (.i2l, 1) := by decide +kernel
theorem dX5_from_2 : decode cX5_from 2 = .ok (.lconst 0, 1) := by decide +kernel
theorem dX5_from_3 : decode cX5_from 3 = .ok (.lconst 1, 1) := by decide +kernel
theorem dX5_from_4 : decode cX5_from 4 = .ok (.invokestatic 58, 3) := by decide +kernel
theorem dX5_from_7 : decode cX5_from 7 = .ok (.ifCond .ne 10, 3) := by decide +kernel
theorem dX5_from_10 : decode cX5_from 10 = .ok (.aload_n 0, 1) := by decide +kernel
theorem dX5_from_11 : decode cX5_from 11 = .ok (.bipush (-2), 2) := by decide +kernel
theorem dX5_from_13 : decode cX5_from 13 = .ok (.invokevirtual 73, 3) := by decide +kernel
theorem dX5_from_16 : decode cX5_from 16 = .ok (.ireturn, 1) := by decide +kernel
theorem dX5_from_17 : decode cX5_from 17 = .ok (.aload_n 0, 1) := by decide +kernel
theorem dX5_from_18 : decode cX5_from 18 = .ok (.getfield 16, 3) := by decide +kernel
theorem dX5_from_21 : decode cX5_from 21 = .ok (.iload_n 1, 1) := by decide +kernel
theorem dX5_from_22 : decode cX5_from 22 = .ok (.baload, 1) := by decide +kernel
theorem dX5_from_23 : decode cX5_from 23 = .ok (.ifCond .ne 10, 3) := by decide +kernel
theorem dX5_from_26 : decode cX5_from 26 = .ok (.aload_n 0, 1) := by decide +kernel
theorem dX5_from_27 : decode cX5_from 27 = .ok (.bipush (-3), 2) := by decide +kernel
theorem dX5_from_29 : decode cX5_from 29 = .ok (.invokevirtual 90, 3) := by decide +kernel
theorem dX5_from_32 : decode cX5_from 32 = .ok (.ireturn, 1) := by decide +kernel
theorem dX5_from_33 : decode cX5_from 33 = .ok (.iconst 0, 1) := by decide +kernel
theorem dX5_from_34 : decode cX5_from 34 = .ok (.istore_n 2, 1) := by decide +kernel
theorem dX5_from_35 : decode cX5_from 35 = .ok (.iload_n 2, 1) := by decide +kernel
theorem dX5_from_36 : decode cX5_from 36 = .ok (.sipush 382, 3) := by decide +kernel
theorem dX5_from_39 : decode cX5_from 39 = .ok (.if_icmp .ge 27, 3) := by decide +kernel
theorem dX5_from_42 : decode cX5_from 42 = .ok (.aload_n 0, 1) := by decide +kernel
theorem dX5_from_43 : decode cX5_from 43 = .ok (.getfield 7, 3) := by decide +kernel
theorem dX5_from_46 : decode cX5_from 46 = .ok (.iload_n 2, 1) := by decide +kernel
theorem dX5_from_47 : decode cX5_from 47 = .ok (.aload_n 0, 1) := by decide +kernel
theorem dX5_from_48 : decode cX5_from 48 = .ok (.getfield 13, 3) := by decide +kernel
theorem dX5_from_51 : decode cX5_from 51 = .ok (.sipush 382, 3) := by decide +kernel
theorem dX5_from_54 : decode cX5_from 54 = .ok (.iload_n 1, 1) := by decide +kernel
theorem dX5_from_55 : decode cX5_from 55 = .ok (.imul, 1) := by decide +kernel
theorem dX5_from_56 : decode cX5_from 56 = .ok (.iload_n 2, 1) := by decide +kernel
theorem dX5_from_57 : decode cX5_from 57 = .ok (.iadd, 1) := by decide +kernel
theorem dX5_from_58 : decode cX5_from 58 = .ok (.iaload, 1) := by decide +kernel
theorem dX5_from_59 : decode cX5_from 59 = .ok (.iastore, 1) := by decide +kernel
theorem dX5_from_60 : decode cX5_from 60 = .ok (.iinc 2 1, 3) := by decide +kernel
theorem dX5_from_63 : decode cX5_from 63 = .ok (.goto (-28), 3) := by decide +kernel
theorem dX5_from_66 : decode cX5_from 66 = .ok (.iconst 1, 1) := by decide +kernel
theorem dX5_from_67 : decode cX5_from 67 = .ok (.ireturn, 1) := by decide +kernel
theorem dX5_status_0 : decode cX5_status 0 = .ok (.iload_n 1, 1) := by decide +kernel
theorem dX5_status_1 : decode cX5_status 1 = .ok (.i2l, 1) := by decide +kernel
theorem dX5_status_2 : decode cX5_status 2 = .ok (.lconst 0, 1) := by decide +kernel
theorem dX5_status_3 : decode cX5_status 3 = .ok (.ldc2_w 130, 3) := by decide +kernel
theorem dX5_status_6 : decode cX5_status 6 = .ok (.invokestatic 58, 3) := by decide +kernel
theorem dX5_status_9 : decode cX5_status 9 = .ok (.ifCond .eq 12, 3) := by decide +kernel
theorem dX5_status_12 : decode cX5_status 12 = .ok (.aload_n 0, 1) := by decide +kernel
theorem dX5_status_13 : decode cX5_status 13 = .ok (.getfield 20, 3) := by decide +kernel
theorem dX5_status_16 : decode cX5_status 16 = .ok (.iload_n 1, 1) := by decide +kernel
theorem dX5_status_17 : decode cX5_status 17 = .ok (.iaload, 1) := by decide +kernel
theorem dX5_status_18 : decode cX5_status 18 = .ok (.goto 8, 3) := by decide +kernel
theorem dX5_status_21 : decode cX5_status 21 = .ok (.aload_n 0, 1) := by decide +kernel
theorem dX5_status_22 : decode cX5_status 22 = .ok (.iconst (-1), 1) := by decide +kernel
theorem dX5_status_23 : decode cX5_status 23 = .ok (.invokevirtual 73, 3) := by decide +kernel
theorem dX5_status_26 : decode cX5_status 26 = .ok (.ireturn, 1) := by decide +kernel
theorem dX5_cannons_0 : decode cX5_cannons 0 = .ok (.iconst 0, 1) := by decide +kernel
theorem dX5_cannons_1 : decode cX5_cannons 1 = .ok (.istore_n 1, 1) := by decide +kernel
theorem dX5_cannons_2 : decode cX5_cannons 2 = .ok (.iconst 0, 1) := by decide +kernel
theorem dX5_cannons_3 : decode cX5_cannons 3 = .ok (.istore_n 2, 1) := by decide +kernel
theorem dX5_cannons_4 : decode cX5_cannons 4 = .ok (.iload_n 2, 1) := by decide +kernel
theorem dX5_cannons_5 : decode cX5_cannons 5 = .ok (.bipush 7, 2) := by decide +kernel
theorem dX5_cannons_7 : decode cX5_cannons 7 = .ok (.if_icmp .ge 21, 3) := by decide +kernel
theorem dX5_cannons_10 : decode cX5_cannons 10 = .ok (.iload_n 1, 1) := by decide +kernel
theorem dX5_cannons_11 : decode cX5_cannons 11 = .ok (.aload_n 0, 1) := by decide +kernel
theorem dX5_cannons_12 : decode cX5_cannons 12 = .ok (.getfield 7, 3) := by decide +kernel
theorem dX5_cannons_15 : decode cX5_cannons 15 = .ok (.bipush 86, 2) := by decide +kernel
theorem dX5_cannons_17 : decode cX5_cannons 17 = .ok (.iload_n 2, 1) := by decide +kernel
theorem dX5_cannons_18 : decode cX5_cannons 18 = .ok (.iadd, 1) := by decide +kernel
theorem dX5_cannons_19 : decode cX5_cannons 19 = .ok (.iaload, 1) := by decide +kernel
theorem dX5_cannons_20 : decode cX5_cannons 20 = .ok (.iadd, 1) := by decide +kernel
theorem dX5_cannons_21 : decode cX5_cannons 21 = .ok (.istore_n 1, 1) := by decide +kernel
theorem dX5_cannons_22 : decode cX5_cannons 22 = .ok (.iinc 2 1, 3) := by decide +kernel
theorem dX5_cannons_25 : decode cX5_cannons 25 = .ok (.goto (-21), 3) := by decide +kernel
theorem dX5_cannons_28 : decode cX5_cannons 28 = .ok (.iload_n 1, 1) := by decide +kernel
theorem dX5_cannons_29 : decode cX5_cannons 29 = .ok (.ireturn, 1) := by decide +kernel
theorem dX5_counted_0 : decode cX5_counted 0 = .ok (.iload_n 1, 1) := by decide +kernel
theorem dX5_counted_1 : decode cX5_counted 1 = .ok (.ifCond .ne 10, 3) := by decide +kernel
theorem dX5_counted_4 : decode cX5_counted 4 = .ok (.aload_n 0, 1) := by decide +kernel
theorem dX5_counted_5 : decode cX5_counted 5 = .ok (.invokevirtual 54, 3) := by decide +kernel
theorem dX5_counted_8 : decode cX5_counted 8 = .ok (.goto 61, 3) := by decide +kernel
theorem dX5_counted_11 : decode cX5_counted 11 = .ok (.iload_n 1, 1) := by decide +kernel
theorem dX5_counted_12 : decode cX5_counted 12 = .ok (.iconst 1, 1) := by decide +kernel
theorem dX5_counted_13 : decode cX5_counted 13 = .ok (.if_icmp .ne 10, 3) := by decide +kernel
theorem dX5_counted_16 : decode cX5_counted 16 = .ok (.aload_n 0, 1) := by decide +kernel
theorem dX5_counted_17 : decode cX5_counted 17 = .ok (.invokevirtual 62, 3) := by decide +kernel
theorem dX5_counted_20 : decode cX5_counted 20 = .ok (.goto 49, 3) := by decide +kernel
theorem dX5_counted_23 : decode cX5_counted 23 = .ok (.iload_n 1, 1) := by decide +kernel
theorem dX5_counted_24 : decode cX5_counted 24 = .ok (.iconst 2, 1) := by decide +kernel
theorem dX5_counted_25 : decode cX5_counted 25 = .ok (.if_icmp .ne 10, 3) := by decide +kernel
theorem dX5_counted_28 : decode cX5_counted 28 = .ok (.aload_n 0, 1) := by decide +kernel
theorem dX5_counted_29 : decode cX5_counted 29 = .ok (.invokevirtual 253, 3) := by decide +kernel
theorem dX5_counted_32 : decode cX5_counted 32 = .ok (.goto 37, 3) := by decide +kernel
theorem dX5_counted_35 : decode cX5_counted 35 = .ok (.iload_n 1, 1) := by decide +kernel
theorem dX5_counted_36 : decode cX5_counted 36 = .ok (.iconst 3, 1) := by decide +kernel
theorem dX5_counted_37 : decode cX5_counted 37 = .ok (.if_icmp .ne 13, 3) := by decide +kernel
theorem dX5_counted_40 : decode cX5_counted 40 = .ok (.aload_n 0, 1) := by decide +kernel
theorem dX5_counted_41 : decode cX5_counted 41 = .ok (.getfield 7, 3) := by decide +kernel
theorem dX5_counted_44 : decode cX5_counted 44 = .ok (.bipush 95, 2) := by decide +kernel
theorem dX5_counted_46 : decode cX5_counted 46 = .ok (.iaload, 1) := by decide +kernel
theorem dX5_counted_47 : decode cX5_counted 47 = .ok (.goto 22, 3) := by decide +kernel
theorem dX5_counted_50 : decode cX5_counted 50 = .ok (.iload_n 1, 1) := by decide +kernel
theorem dX5_counted_51 : decode cX5_counted 51 = .ok (.iconst 4, 1) := by decide +kernel
theorem dX5_counted_52 : decode cX5_counted 52 = .ok (.if_icmp .ne 13, 3) := by decide +kernel
theorem dX5_counted_55 : decode cX5_counted 55 = .ok (.aload_n 0, 1) := by decide +kernel
theorem dX5_counted_56 : decode cX5_counted 56 = .ok (.getfield 7, 3) := by decide +kernel
theorem dX5_counted_59 : decode cX5_counted 59 = .ok (.bipush 96, 2) := by decide +kernel
theorem dX5_counted_61 : decode cX5_counted 61 = .ok (.iaload, 1) := by decide +kernel
theorem dX5_counted_62 : decode cX5_counted 62 = .ok (.goto 7, 3) := by decide +kernel
theorem dX5_counted_65 : decode cX5_counted 65 = .ok (.aload_n 0, 1) := by decide +kernel
theorem dX5_counted_66 : decode cX5_counted 66 = .ok (.getfield 195, 3) := by decide +kernel
theorem dX5_counted_69 : decode cX5_counted 69 = .ok (.ireturn, 1) := by decide +kernel
theorem dX5_count_0 : decode cX5_count 0 = .ok (.iload_n 1, 1) := by decide +kernel
theorem dX5_count_1 : decode cX5_count 1 = .ok (.i2l, 1) := by decide +kernel
theorem dX5_count_2 : decode cX5_count 2 = .ok (.lconst 0, 1) := by decide +kernel
theorem dX5_count_3 : decode cX5_count 3 = .ok (.ldc2_w 65, 3) := by decide +kernel
theorem dX5_count_6 : decode cX5_count 6 = .ok (.invokestatic 58, 3) := by decide +kernel
theorem dX5_count_9 : decode cX5_count 9 = .ok (.ifCond .eq 11, 3) := by decide +kernel
theorem dX5_count_12 : decode cX5_count 12 = .ok (.aload_n 0, 1) := by decide +kernel
theorem dX5_count_13 : decode cX5_count 13 = .ok (.iload_n 1, 1) := by decide +kernel
theorem dX5_count_14 : decode cX5_count 14 = .ok (.invokevirtual 256, 3) := by decide +kernel
theorem dX5_count_17 : decode cX5_count 17 = .ok (.goto 9, 3) := by decide +kernel
theorem dX5_count_20 : decode cX5_count 20 = .ok (.aload_n 0, 1) := by decide +kernel
theorem dX5_count_21 : decode cX5_count 21 = .ok (.bipush (-2), 2) := by decide +kernel
theorem dX5_count_23 : decode cX5_count 23 = .ok (.invokevirtual 73, 3) := by decide +kernel
theorem dX5_count_26 : decode cX5_count 26 = .ok (.ireturn, 1) := by decide +kernel
theorem dX5_sums_0 : decode cX5_sums 0 = .ok (.lload_n 1, 1) := by decide +kernel
theorem dX5_sums_1 : decode cX5_sums 1 = .ok (.lstore 5, 2) := by decide +kernel
theorem dX5_sums_3 : decode cX5_sums 3 = .ok (.iconst 0, 1) := by decide +kernel
theorem dX5_sums_4 : decode cX5_sums 4 = .ok (.istore 7, 2) := by decide +kernel
theorem dX5_sums_6 : decode cX5_sums 6 = .ok (.iload 7, 2) := by decide +kernel
theorem dX5_sums_8 : decode cX5_sums 8 = .ok (.iload 4, 2) := by decide +kernel
theorem dX5_sums_10 : decode cX5_sums 10 = .ok (.if_icmp .ge 28, 3) := by decide +kernel
theorem dX5_sums_13 : decode cX5_sums 13 = .ok (.ldc2_w 259, 3) := by decide +kernel
theorem dX5_sums_16 : decode cX5_sums 16 = .ok (.lload 5, 2) := by decide +kernel
theorem dX5_sums_18 : decode cX5_sums 18 = .ok (.lmul, 1) := by decide +kernel
theorem dX5_sums_19 : decode cX5_sums 19 = .ok (.aload_n 0, 1) := by decide +kernel
theorem dX5_sums_20 : decode cX5_sums 20 = .ok (.getfield 7, 3) := by decide +kernel
theorem dX5_sums_23 : decode cX5_sums 23 = .ok (.iload_n 3, 1) := by decide +kernel
theorem dX5_sums_24 : decode cX5_sums 24 = .ok (.iload 7, 2) := by decide +kernel
theorem dX5_sums_26 : decode cX5_sums 26 = .ok (.iadd, 1) := by decide +kernel
theorem dX5_sums_27 : decode cX5_sums 27 = .ok (.iaload, 1) := by decide +kernel
theorem dX5_sums_28 : decode cX5_sums 28 = .ok (.i2l, 1) := by decide +kernel
theorem dX5_sums_29 : decode cX5_sums 29 = .ok (.ladd, 1) := by decide +kernel
theorem dX5_sums_30 : decode cX5_sums 30 = .ok (.lstore 5, 2) := by decide +kernel
theorem dX5_sums_32 : decode cX5_sums 32 = .ok (.iinc 7 1, 3) := by decide +kernel
theorem dX5_sums_35 : decode cX5_sums 35 = .ok (.goto (-29), 3) := by decide +kernel
theorem dX5_sums_38 : decode cX5_sums 38 = .ok (.lload 5, 2) := by decide +kernel
theorem dX5_sums_40 : decode cX5_sums 40 = .ok (.lreturn, 1) := by decide +kernel
theorem dX5_digest_0 : decode cX5_digest 0 = .ok (.ldc2_w 261, 3) := by decide +kernel
theorem dX5_digest_3 : decode cX5_digest 3 = .ok (.lstore_n 1, 1) := by decide +kernel
theorem dX5_digest_4 : decode cX5_digest 4 = .ok (.iconst 0, 1) := by decide +kernel
theorem dX5_digest_5 : decode cX5_digest 5 = .ok (.istore_n 3, 1) := by decide +kernel
theorem dX5_digest_6 : decode cX5_digest 6 = .ok (.iload_n 3, 1) := by decide +kernel
theorem dX5_digest_7 : decode cX5_digest 7 = .ok (.bipush 6, 2) := by decide +kernel
theorem dX5_digest_9 : decode cX5_digest 9 = .ok (.if_icmp .ge 22, 3) := by decide +kernel
theorem dX5_digest_12 : decode cX5_digest 12 = .ok (.ldc2_w 259, 3) := by decide +kernel
theorem dX5_digest_15 : decode cX5_digest 15 = .ok (.lload_n 1, 1) := by decide +kernel
theorem dX5_digest_16 : decode cX5_digest 16 = .ok (.lmul, 1) := by decide +kernel
theorem dX5_digest_17 : decode cX5_digest 17 = .ok (.aload_n 0, 1) := by decide +kernel
theorem dX5_digest_18 : decode cX5_digest 18 = .ok (.iload_n 3, 1) := by decide +kernel
theorem dX5_digest_19 : decode cX5_digest 19 = .ok (.invokevirtual 256, 3) := by decide +kernel
theorem dX5_digest_22 : decode cX5_digest 22 = .ok (.i2l, 1) := by decide +kernel
theorem dX5_digest_23 : decode cX5_digest 23 = .ok (.ladd, 1) := by decide +kernel
theorem dX5_digest_24 : decode cX5_digest 24 = .ok (.lstore_n 1, 1) := by decide +kernel
theorem dX5_digest_25 : decode cX5_digest 25 = .ok (.iinc 3 1, 3) := by decide +kernel
theorem dX5_digest_28 : decode cX5_digest 28 = .ok (.goto (-22), 3) := by decide +kernel
theorem dX5_digest_31 : decode cX5_digest 31 = .ok (.aload_n 0, 1) := by decide +kernel
theorem dX5_digest_32 : decode cX5_digest 32 = .ok (.lload_n 1, 1) := by decide +kernel
theorem dX5_digest_33 : decode cX5_digest 33 = .ok (.iconst 0, 1) := by decide +kernel
theorem dX5_digest_34 : decode cX5_digest 34 = .ok (.bipush 8, 2) := by decide +kernel
theorem dX5_digest_36 : decode cX5_digest 36 = .ok (.aload_n 0, 1) := by decide +kernel
theorem dX5_digest_37 : decode cX5_digest 37 = .ok (.invokevirtual 54, 3) := by decide +kernel
theorem dX5_digest_40 : decode cX5_digest 40 = .ok (.imul, 1) := by decide +kernel
theorem dX5_digest_41 : decode cX5_digest 41 = .ok (.invokevirtual 263, 3) := by decide +kernel
theorem dX5_digest_44 : decode cX5_digest 44 = .ok (.lstore_n 1, 1) := by decide +kernel
theorem dX5_digest_45 : decode cX5_digest 45 = .ok (.aload_n 0, 1) := by decide +kernel
theorem dX5_digest_46 : decode cX5_digest 46 = .ok (.lload_n 1, 1) := by decide +kernel
theorem dX5_digest_47 : decode cX5_digest 47 = .ok (.bipush 56, 2) := by decide +kernel
theorem dX5_digest_49 : decode cX5_digest 49 = .ok (.iconst 5, 1) := by decide +kernel
theorem dX5_digest_50 : decode cX5_digest 50 = .ok (.aload_n 0, 1) := by decide +kernel
theorem dX5_digest_51 : decode cX5_digest 51 = .ok (.invokevirtual 62, 3) := by decide +kernel
theorem dX5_digest_54 : decode cX5_digest 54 = .ok (.imul, 1) := by decide +kernel
theorem dX5_digest_55 : decode cX5_digest 55 = .ok (.invokevirtual 263, 3) := by decide +kernel
theorem dX5_digest_58 : decode cX5_digest 58 = .ok (.lstore_n 1, 1) := by decide +kernel
theorem dX5_digest_59 : decode cX5_digest 59 = .ok (.aload_n 0, 1) := by decide +kernel
theorem dX5_digest_60 : decode cX5_digest 60 = .ok (.lload_n 1, 1) := by decide +kernel
theorem dX5_digest_61 : decode cX5_digest 61 = .ok (.bipush 86, 2) := by decide +kernel
theorem dX5_digest_63 : decode cX5_digest 63 = .ok (.bipush 7, 2) := by decide +kernel
theorem dX5_digest_65 : decode cX5_digest 65 = .ok (.invokevirtual 263, 3) := by decide +kernel
theorem dX5_digest_68 : decode cX5_digest 68 = .ok (.lstore_n 1, 1) := by decide +kernel
theorem dX5_digest_69 : decode cX5_digest 69 = .ok (.ldc2_w 259, 3) := by decide +kernel
theorem dX5_digest_72 : decode cX5_digest 72 = .ok (.ldc2_w 259, 3) := by decide +kernel
theorem dX5_digest_75 : decode cX5_digest 75 = .ok (.lload_n 1, 1) := by decide +kernel
theorem dX5_digest_76 : decode cX5_digest 76 = .ok (.lmul, 1) := by decide +kernel
theorem dX5_digest_77 : decode cX5_digest 77 = .ok (.aload_n 0, 1) := by decide +kernel
theorem dX5_digest_78 : decode cX5_digest 78 = .ok (.getfield 51, 3) := by decide +kernel
theorem dX5_digest_81 : decode cX5_digest 81 = .ok (.ladd, 1) := by decide +kernel
theorem dX5_digest_82 : decode cX5_digest 82 = .ok (.lmul, 1) := by decide +kernel
theorem dX5_digest_83 : decode cX5_digest 83 = .ok (.aload_n 0, 1) := by decide +kernel
theorem dX5_digest_84 : decode cX5_digest 84 = .ok (.getfield 23, 3) := by decide +kernel
theorem dX5_digest_87 : decode cX5_digest 87 = .ok (.ladd, 1) := by decide +kernel
theorem dX5_digest_88 : decode cX5_digest 88 = .ok (.lreturn, 1) := by decide +kernel
theorem dJ9_abs_067f4_0 : decode cJ9_abs_067f4 0 = .ok (.lload_n 0, 1) := by decide +kernel
theorem dJ9_abs_067f4_1 : decode cJ9_abs_067f4 1 = .ok (.lconst 0, 1) := by decide +kernel
theorem dJ9_abs_067f4_2 : decode cJ9_abs_067f4 2 = .ok (.lcmp, 1) := by decide +kernel
theorem dJ9_abs_067f4_3 : decode cJ9_abs_067f4 3 = .ok (.ifCond .ge 8, 3) := by decide +kernel
theorem dJ9_abs_067f4_6 : decode cJ9_abs_067f4 6 = .ok (.lload_n 0, 1) := by decide +kernel
theorem dJ9_abs_067f4_7 : decode cJ9_abs_067f4 7 = .ok (.lneg, 1) := by decide +kernel
theorem dJ9_abs_067f4_8 : decode cJ9_abs_067f4 8 = .ok (.goto 4, 3) := by decide +kernel
theorem dJ9_abs_067f4_11 : decode cJ9_abs_067f4 11 = .ok (.lload_n 0, 1) := by decide +kernel
theorem dJ9_abs_067f4_12 : decode cJ9_abs_067f4 12 = .ok (.lreturn, 1) := by decide +kernel
theorem dJ9_max_7cf53_0 : decode cJ9_max_7cf53 0 = .ok (.iload_n 0, 1) := by decide +kernel
theorem dJ9_max_7cf53_1 : decode cJ9_max_7cf53 1 = .ok (.iload_n 1, 1) := by decide +kernel
theorem dJ9_max_7cf53_2 : decode cJ9_max_7cf53 2 = .ok (.if_icmp .lt 7, 3) := by decide +kernel
theorem dJ9_max_7cf53_5 : decode cJ9_max_7cf53 5 = .ok (.iload_n 0, 1) := by decide +kernel
theorem dJ9_max_7cf53_6 : decode cJ9_max_7cf53 6 = .ok (.goto 4, 3) := by decide +kernel
theorem dJ9_max_7cf53_9 : decode cJ9_max_7cf53 9 = .ok (.iload_n 1, 1) := by decide +kernel
theorem dJ9_max_7cf53_10 : decode cJ9_max_7cf53 10 = .ok (.ireturn, 1) := by decide +kernel
theorem dJ9_min_7cf53_0 : decode cJ9_min_7cf53 0 = .ok (.iload_n 0, 1) := by decide +kernel
theorem dJ9_min_7cf53_1 : decode cJ9_min_7cf53 1 = .ok (.iload_n 1, 1) := by decide +kernel
theorem dJ9_min_7cf53_2 : decode cJ9_min_7cf53 2 = .ok (.if_icmp .gt 7, 3) := by decide +kernel
theorem dJ9_min_7cf53_5 : decode cJ9_min_7cf53 5 = .ok (.iload_n 0, 1) := by decide +kernel
theorem dJ9_min_7cf53_6 : decode cJ9_min_7cf53 6 = .ok (.goto 4, 3) := by decide +kernel
theorem dJ9_min_7cf53_9 : decode cJ9_min_7cf53 9 = .ok (.iload_n 1, 1) := by decide +kernel
theorem dJ9_min_7cf53_10 : decode cJ9_min_7cf53 10 = .ok (.ireturn, 1) := by decide +kernel
theorem dJ0_length_8abf5_0 : decode cJ0_length_8abf5 0 = .ok (.aload_n 0, 1) := by decide +kernel
theorem dJ0_length_8abf5_1 : decode cJ0_length_8abf5 1 = .ok (.getfield 9, 3) := by decide +kernel
theorem dJ0_length_8abf5_4 : decode cJ0_length_8abf5 4 = .ok (.arraylength, 1) := by decide +kernel
theorem dJ0_length_8abf5_5 : decode cJ0_length_8abf5 5 = .ok (.aload_n 0, 1) := by decide +kernel
theorem dJ0_length_8abf5_6 : decode cJ0_length_8abf5 6 = .ok (.invokevirtual 335, 3) := by decide +kernel
theorem dJ0_length_8abf5_9 : decode cJ0_length_8abf5 9 = .ok (.ishr, 1) := by decide +kernel
theorem dJ0_length_8abf5_10 : decode cJ0_length_8abf5 10 = .ok (.ireturn, 1) := by decide +kernel
theorem dJ0_charAt_5068e_0 : decode cJ0_charAt_5068e 0 = .ok (.aload_n 0, 1) := by decide +kernel
theorem dJ0_charAt_5068e_1 : decode cJ0_charAt_5068e 1 = .ok (.invokevirtual 492, 3) := by decide +kernel
theorem dJ0_charAt_5068e_4 : decode cJ0_charAt_5068e 4 = .ok (.ifCond .eq 12, 3) := by decide +kernel
theorem dJ0_charAt_5068e_7 : decode cJ0_charAt_5068e 7 = .ok (.aload_n 0, 1) := by decide +kernel
theorem dJ0_charAt_5068e_8 : decode cJ0_charAt_5068e 8 = .ok (.getfield 9, 3) := by decide +kernel
theorem dJ0_charAt_5068e_11 : decode cJ0_charAt_5068e 11 = .ok (.iload_n 1, 1) := by decide +kernel
theorem dJ0_charAt_5068e_12 : decode cJ0_charAt_5068e 12 = .ok (.invokestatic 495, 3) := by decide +kernel
theorem dJ0_charAt_5068e_15 : decode cJ0_charAt_5068e 15 = .ok (.ireturn, 1) := by decide +kernel
theorem dJ0_charAt_5068e_16 : decode cJ0_charAt_5068e 16 = .ok (.aload_n 0, 1) := by decide +kernel
theorem dJ0_charAt_5068e_17 : decode cJ0_charAt_5068e 17 = .ok (.getfield 9, 3) := by decide +kernel
theorem dJ0_charAt_5068e_20 : decode cJ0_charAt_5068e 20 = .ok (.iload_n 1, 1) := by decide +kernel
theorem dJ0_charAt_5068e_21 : decode cJ0_charAt_5068e 21 = .ok (.invokestatic 498, 3) := by decide +kernel
theorem dJ0_charAt_5068e_24 : decode cJ0_charAt_5068e 24 = .ok (.ireturn, 1) := by decide +kernel
theorem dJ0_coder_7d493_0 : decode cJ0_coder_7d493 0 = .ok (.getstatic 38, 3) := by decide +kernel
theorem dJ0_coder_7d493_3 : decode cJ0_coder_7d493 3 = .ok (.ifCond .eq 10, 3) := by decide +kernel
theorem dJ0_coder_7d493_6 : decode cJ0_coder_7d493 6 = .ok (.aload_n 0, 1) := by decide +kernel
theorem dJ0_coder_7d493_7 : decode cJ0_coder_7d493 7 = .ok (.getfield 15, 3) := by decide +kernel
theorem dJ0_coder_7d493_10 : decode cJ0_coder_7d493 10 = .ok (.goto 4, 3) := by decide +kernel
theorem dJ0_coder_7d493_13 : decode cJ0_coder_7d493 13 = .ok (.iconst 1, 1) := by decide +kernel
theorem dJ0_coder_7d493_14 : decode cJ0_coder_7d493 14 = .ok (.ireturn, 1) := by decide +kernel
theorem dJ0_isLatin1_aae02_0 : decode cJ0_isLatin1_aae02 0 = .ok (.getstatic 38, 3) := by decide +kernel
theorem dJ0_isLatin1_aae02_3 : decode cJ0_isLatin1_aae02 3 = .ok (.ifCond .eq 14, 3) := by decide +kernel
theorem dJ0_isLatin1_aae02_6 : decode cJ0_isLatin1_aae02 6 = .ok (.aload_n 0, 1) := by decide +kernel
theorem dJ0_isLatin1_aae02_7 : decode cJ0_isLatin1_aae02 7 = .ok (.getfield 15, 3) := by decide +kernel
theorem dJ0_isLatin1_aae02_10 : decode cJ0_isLatin1_aae02 10 = .ok (.ifCond .ne 7, 3) := by decide +kernel
theorem dJ0_isLatin1_aae02_13 : decode cJ0_isLatin1_aae02 13 = .ok (.iconst 1, 1) := by decide +kernel
theorem dJ0_isLatin1_aae02_14 : decode cJ0_isLatin1_aae02 14 = .ok (.goto 4, 3) := by decide +kernel
theorem dJ0_isLatin1_aae02_17 : decode cJ0_isLatin1_aae02 17 = .ok (.iconst 0, 1) := by decide +kernel
theorem dJ0_isLatin1_aae02_18 : decode cJ0_isLatin1_aae02 18 = .ok (.ireturn, 1) := by decide +kernel
theorem dJ0_checkIndex_df160_0 : decode cJ0_checkIndex_df160 0 = .ok (.iload_n 0, 1) := by decide +kernel
theorem dJ0_checkIndex_df160_1 : decode cJ0_checkIndex_df160 1 = .ok (.iload_n 1, 1) := by decide +kernel
theorem dJ0_checkIndex_df160_2 : decode cJ0_checkIndex_df160 2 = .ok (.getstatic 1053, 3) := by decide +kernel
theorem dJ0_checkIndex_df160_5 : decode cJ0_checkIndex_df160 5 = .ok (.invokestatic 1059, 3) := by decide +kernel
theorem dJ0_checkIndex_df160_8 : decode cJ0_checkIndex_df160 8 = .ok (.pop, 1) := by decide +kernel
theorem dJ0_checkIndex_df160_9 : decode cJ0_checkIndex_df160 9 = .ok (.return_, 1) := by decide +kernel
theorem dJ1_charAt_3b067_0 : decode cJ1_charAt_3b067 0 = .ok (.iload_n 1, 1) := by decide +kernel
theorem dJ1_charAt_3b067_1 : decode cJ1_charAt_3b067 1 = .ok (.aload_n 0, 1) := by decide +kernel
theorem dJ1_charAt_3b067_2 : decode cJ1_charAt_3b067 2 = .ok (.arraylength, 1) := by decide +kernel
theorem dJ1_charAt_3b067_3 : decode cJ1_charAt_3b067 3 = .ok (.invokestatic 9, 3) := by decide +kernel
theorem dJ1_charAt_3b067_6 : decode cJ1_charAt_3b067 6 = .ok (.aload_n 0, 1) := by decide +kernel
theorem dJ1_charAt_3b067_7 : decode cJ1_charAt_3b067 7 = .ok (.iload_n 1, 1) := by decide +kernel
theorem dJ1_charAt_3b067_8 : decode cJ1_charAt_3b067 8 = .ok (.baload, 1) := by decide +kernel
theorem dJ1_charAt_3b067_9 : decode cJ1_charAt_3b067 9 = .ok (.sipush 255, 3) := by decide +kernel
theorem dJ1_charAt_3b067_12 : decode cJ1_charAt_3b067 12 = .ok (.iand, 1) := by decide +kernel
theorem dJ1_charAt_3b067_13 : decode cJ1_charAt_3b067 13 = .ok (.i2c, 1) := by decide +kernel
theorem dJ1_charAt_3b067_14 : decode cJ1_charAt_3b067 14 = .ok (.ireturn, 1) := by decide +kernel
theorem dJ2_getChar_3b067_0 : decode cJ2_getChar_3b067 0 = .ok (.getstatic 44, 3) := by decide +kernel
theorem dJ2_getChar_3b067_3 : decode cJ2_getChar_3b067 3 = .ok (.ifCond .ne 25, 3) := by decide +kernel
theorem dJ2_getChar_3b067_6 : decode cJ2_getChar_3b067 6 = .ok (.iload_n 1, 1) := by decide +kernel
theorem dJ2_getChar_3b067_7 : decode cJ2_getChar_3b067 7 = .ok (.ifCond .lt 11, 3) := by decide +kernel
theorem dJ2_getChar_3b067_10 : decode cJ2_getChar_3b067 10 = .ok (.iload_n 1, 1) := by decide +kernel
theorem dJ2_getChar_3b067_11 : decode cJ2_getChar_3b067 11 = .ok (.aload_n 0, 1) := by decide +kernel
theorem dJ2_getChar_3b067_12 : decode cJ2_getChar_3b067 12 = .ok (.invokestatic 48, 3) := by decide +kernel
theorem dJ2_getChar_3b067_15 : decode cJ2_getChar_3b067 15 = .ok (.if_icmp .lt 13, 3) := by decide +kernel
theorem dJ2_getChar_3b067_18 : decode cJ2_getChar_3b067 18 = .ok (.new 52, 3) := by decide +kernel
theorem dJ2_getChar_3b067_21 : decode cJ2_getChar_3b067 21 = .ok (.dup, 1) := by decide +kernel
theorem dJ2_getChar_3b067_22 : decode cJ2_getChar_3b067 22 = .ok (.ldc 54, 2) := by decide +kernel
theorem dJ2_getChar_3b067_24 : decode cJ2_getChar_3b067 24 = .ok (.invokespecial 56, 3) := by decide +kernel
theorem dJ2_getChar_3b067_27 : decode cJ2_getChar_3b067 27 = .ok (.athrow, 1) := by decide +kernel
theorem dJ2_getChar_3b067_28 : decode cJ2_getChar_3b067 28 = .ok (.iload_n 1, 1) := by decide +kernel
theorem dJ2_getChar_3b067_29 : decode cJ2_getChar_3b067 29 = .ok (.iconst 1, 1) := by decide +kernel
theorem dJ2_getChar_3b067_30 : decode cJ2_getChar_3b067 30 = .ok (.ishl, 1) := by decide +kernel
theorem dJ2_getChar_3b067_31 : decode cJ2_getChar_3b067 31 = .ok (.istore_n 1, 1) := by decide +kernel
theorem dJ2_getChar_3b067_32 : decode cJ2_getChar_3b067 32 = .ok (.aload_n 0, 1) := by decide +kernel
theorem dJ2_getChar_3b067_33 : decode cJ2_getChar_3b067 33 = .ok (.iload_n 1, 1) := by decide +kernel
theorem dJ2_getChar_3b067_34 : decode cJ2_getChar_3b067 34 = .ok (.iinc 1 1, 3) := by decide +kernel
theorem dJ2_getChar_3b067_37 : decode cJ2_getChar_3b067 37 = .ok (.baload, 1) := by decide +kernel
theorem dJ2_getChar_3b067_38 : decode cJ2_getChar_3b067 38 = .ok (.sipush 255, 3) := by decide +kernel
theorem dJ2_getChar_3b067_41 : decode cJ2_getChar_3b067 41 = .ok (.iand, 1) := by decide +kernel
theorem dJ2_getChar_3b067_42 : decode cJ2_getChar_3b067 42 = .ok (.getstatic 59, 3) := by decide +kernel
theorem dJ2_getChar_3b067_45 : decode cJ2_getChar_3b067 45 = .ok (.ishl, 1) := by decide +kernel
theorem dJ2_getChar_3b067_46 : decode cJ2_getChar_3b067 46 = .ok (.aload_n 0, 1) := by decide +kernel
theorem dJ2_getChar_3b067_47 : decode cJ2_getChar_3b067 47 = .ok (.iload_n 1, 1) := by decide +kernel
theorem dJ2_getChar_3b067_48 : decode cJ2_getChar_3b067 48 = .ok (.baload, 1) := by decide +kernel
theorem dJ2_getChar_3b067_49 : decode cJ2_getChar_3b067 49 = .ok (.sipush 255, 3) := by decide +kernel
theorem dJ2_getChar_3b067_52 : decode cJ2_getChar_3b067 52 = .ok (.iand, 1) := by decide +kernel
theorem dJ2_getChar_3b067_53 : decode cJ2_getChar_3b067 53 = .ok (.getstatic 63, 3) := by decide +kernel
theorem dJ2_getChar_3b067_56 : decode cJ2_getChar_3b067 56 = .ok (.ishl, 1) := by decide +kernel
theorem dJ2_getChar_3b067_57 : decode cJ2_getChar_3b067 57 = .ok (.ior, 1) := by decide +kernel
theorem dJ2_getChar_3b067_58 : decode cJ2_getChar_3b067 58 = .ok (.i2c, 1) := by decide +kernel
theorem dJ2_getChar_3b067_59 : decode cJ2_getChar_3b067 59 = .ok (.ireturn, 1) := by decide +kernel
theorem dJ2_length_9d52b_0 : decode cJ2_length_9d52b 0 = .ok (.aload_n 0, 1) := by decide +kernel
theorem dJ2_length_9d52b_1 : decode cJ2_length_9d52b 1 = .ok (.arraylength, 1) := by decide +kernel
theorem dJ2_length_9d52b_2 : decode cJ2_length_9d52b 2 = .ok (.iconst 1, 1) := by decide +kernel
theorem dJ2_length_9d52b_3 : decode cJ2_length_9d52b 3 = .ok (.ishr, 1) := by decide +kernel
theorem dJ2_length_9d52b_4 : decode cJ2_length_9d52b 4 = .ok (.ireturn, 1) := by decide +kernel
theorem dJ2_charAt_3b067_0 : decode cJ2_charAt_3b067 0 = .ok (.iload_n 1, 1) := by decide +kernel
theorem dJ2_charAt_3b067_1 : decode cJ2_charAt_3b067 1 = .ok (.aload_n 0, 1) := by decide +kernel
theorem dJ2_charAt_3b067_2 : decode cJ2_charAt_3b067 2 = .ok (.invokestatic 67, 3) := by decide +kernel
theorem dJ2_charAt_3b067_5 : decode cJ2_charAt_3b067 5 = .ok (.aload_n 0, 1) := by decide +kernel
theorem dJ2_charAt_3b067_6 : decode cJ2_charAt_3b067 6 = .ok (.iload_n 1, 1) := by decide +kernel
theorem dJ2_charAt_3b067_7 : decode cJ2_charAt_3b067 7 = .ok (.invokestatic 71, 3) := by decide +kernel
theorem dJ2_charAt_3b067_10 : decode cJ2_charAt_3b067 10 = .ok (.ireturn, 1) := by decide +kernel
theorem dJ2_checkIndex_2214a_0 : decode cJ2_checkIndex_2214a 0 = .ok (.iload_n 0, 1) := by decide +kernel
theorem dJ2_checkIndex_2214a_1 : decode cJ2_checkIndex_2214a 1 = .ok (.aload_n 1, 1) := by decide +kernel
theorem dJ2_checkIndex_2214a_2 : decode cJ2_checkIndex_2214a 2 = .ok (.invokestatic 48, 3) := by decide +kernel
theorem dJ2_checkIndex_2214a_5 : decode cJ2_checkIndex_2214a 5 = .ok (.invokestatic 414, 3) := by decide +kernel
theorem dJ2_checkIndex_2214a_8 : decode cJ2_checkIndex_2214a 8 = .ok (.return_, 1) := by decide +kernel
theorem dJ3_checkIndex_8e157_0 : decode cJ3_checkIndex_8e157 0 = .ok (.iload_n 0, 1) := by decide +kernel
theorem dJ3_checkIndex_8e157_1 : decode cJ3_checkIndex_8e157 1 = .ok (.ifCond .lt 8, 3) := by decide +kernel
theorem dJ3_checkIndex_8e157_4 : decode cJ3_checkIndex_8e157 4 = .ok (.iload_n 0, 1) := by decide +kernel
theorem dJ3_checkIndex_8e157_5 : decode cJ3_checkIndex_8e157 5 = .ok (.iload_n 1, 1) := by decide +kernel
theorem dJ3_checkIndex_8e157_6 : decode cJ3_checkIndex_8e157 6 = .ok (.if_icmp .lt 10, 3) := by decide +kernel
theorem dJ3_checkIndex_8e157_9 : decode cJ3_checkIndex_8e157 9 = .ok (.aload_n 2, 1) := by decide +kernel
theorem dJ3_checkIndex_8e157_10 : decode cJ3_checkIndex_8e157 10 = .ok (.iload_n 0, 1) := by decide +kernel
theorem dJ3_checkIndex_8e157_11 : decode cJ3_checkIndex_8e157 11 = .ok (.iload_n 1, 1) := by decide +kernel
theorem dJ3_checkIndex_8e157_12 : decode cJ3_checkIndex_8e157 12 = .ok (.invokestatic 95, 3) := by decide +kernel
theorem dJ3_checkIndex_8e157_15 : decode cJ3_checkIndex_8e157 15 = .ok (.athrow, 1) := by decide +kernel
theorem dJ3_checkIndex_8e157_16 : decode cJ3_checkIndex_8e157 16 = .ok (.iload_n 0, 1) := by decide +kernel
theorem dJ3_checkIndex_8e157_17 : decode cJ3_checkIndex_8e157 17 = .ok (.ireturn, 1) := by decide +kernel
theorem dL_law_0 : decode cL_law 0 = .ok (.new 7, 3) := by decide +kernel
theorem dL_law_3 : decode cL_law 3 = .ok (.dup, 1) := by decide +kernel
theorem dL_law_4 : decode cL_law 4 = .ok (.invokespecial 9, 3) := by decide +kernel
theorem dL_law_7 : decode cL_law 7 = .ok (.astore_n 1, 1) := by decide +kernel
theorem dL_law_8 : decode cL_law 8 = .ok (.new 10, 3) := by decide +kernel
theorem dL_law_11 : decode cL_law 11 = .ok (.dup, 1) := by decide +kernel
theorem dL_law_12 : decode cL_law 12 = .ok (.invokespecial 12, 3) := by decide +kernel
theorem dL_law_15 : decode cL_law 15 = .ok (.astore_n 2, 1) := by decide +kernel
theorem dL_law_16 : decode cL_law 16 = .ok (.iconst 0, 1) := by decide +kernel
theorem dL_law_17 : decode cL_law 17 = .ok (.istore_n 3, 1) := by decide +kernel
theorem dL_law_18 : decode cL_law 18 = .ok (.iload_n 3, 1) := by decide +kernel
theorem dL_law_19 : decode cL_law 19 = .ok (.aload_n 0, 1) := by decide +kernel
theorem dL_law_20 : decode cL_law 20 = .ok (.arraylength, 1) := by decide +kernel
theorem dL_law_21 : decode cL_law 21 = .ok (.bipush 7, 2) := by decide +kernel
theorem dL_law_23 : decode cL_law 23 = .ok (.isub, 1) := by decide +kernel
theorem dL_law_24 : decode cL_law 24 = .ok (.if_icmp .gt 1063, 3) := by decide +kernel
theorem dL_law_27 : decode cL_law 27 = .ok (.aload_n 0, 1) := by decide +kernel
theorem dL_law_28 : decode cL_law 28 = .ok (.iload_n 3, 1) := by decide +kernel
theorem dL_law_29 : decode cL_law 29 = .ok (.iaload, 1) := by decide +kernel
theorem dL_law_30 : decode cL_law 30 = .ok (.bipush 31, 2) := by decide +kernel
theorem dL_law_32 : decode cL_law 32 = .ok (.iand, 1) := by decide +kernel
theorem dL_law_33 : decode cL_law 33 = .ok (.tableswitch 1048 0 28 #[131, 206, 269, 318, 361, 424, 437, 450, 493, 536, 559, 582, 615, 668, 681, 704, 727, 750, 793, 816, 849, 872, 885, 918, 942, 965, 988, 1011, 1034], 131) := by decide +kernel
theorem dL_law_164 : decode cL_law 164 = .ok (.aload_n 1, 1) := by decide +kernel
theorem dL_law_165 : decode cL_law 165 = .ok (.aload_n 0, 1) := by decide +kernel
theorem dL_law_166 : decode cL_law 166 = .ok (.iload_n 3, 1) := by decide +kernel
theorem dL_law_167 : decode cL_law 167 = .ok (.iconst 1, 1) := by decide +kernel
theorem dL_law_168 : decode cL_law 168 = .ok (.iadd, 1) := by decide +kernel
theorem dL_law_169 : decode cL_law 169 = .ok (.iaload, 1) := by decide +kernel
theorem dL_law_170 : decode cL_law 170 = .ok (.aload_n 0, 1) := by decide +kernel
theorem dL_law_171 : decode cL_law 171 = .ok (.iload_n 3, 1) := by decide +kernel
theorem dL_law_172 : decode cL_law 172 = .ok (.iconst 2, 1) := by decide +kernel
theorem dL_law_173 : decode cL_law 173 = .ok (.iadd, 1) := by decide +kernel
theorem dL_law_174 : decode cL_law 174 = .ok (.iaload, 1) := by decide +kernel
theorem dL_law_175 : decode cL_law 175 = .ok (.aload_n 0, 1) := by decide +kernel
theorem dL_law_176 : decode cL_law 176 = .ok (.iload_n 3, 1) := by decide +kernel
theorem dL_law_177 : decode cL_law 177 = .ok (.iconst 3, 1) := by decide +kernel
theorem dL_law_178 : decode cL_law 178 = .ok (.iadd, 1) := by decide +kernel
theorem dL_law_179 : decode cL_law 179 = .ok (.iaload, 1) := by decide +kernel
theorem dL_law_180 : decode cL_law 180 = .ok (.aload_n 0, 1) := by decide +kernel
theorem dL_law_181 : decode cL_law 181 = .ok (.iload_n 3, 1) := by decide +kernel
theorem dL_law_182 : decode cL_law 182 = .ok (.iconst 4, 1) := by decide +kernel
theorem dL_law_183 : decode cL_law 183 = .ok (.iadd, 1) := by decide +kernel
theorem dL_law_184 : decode cL_law 184 = .ok (.iaload, 1) := by decide +kernel
theorem dL_law_185 : decode cL_law 185 = .ok (.aload_n 0, 1) := by decide +kernel
theorem dL_law_186 : decode cL_law 186 = .ok (.iload_n 3, 1) := by decide +kernel
theorem dL_law_187 : decode cL_law 187 = .ok (.iconst 5, 1) := by decide +kernel
theorem dL_law_188 : decode cL_law 188 = .ok (.iadd, 1) := by decide +kernel
theorem dL_law_189 : decode cL_law 189 = .ok (.iaload, 1) := by decide +kernel
theorem dL_law_190 : decode cL_law 190 = .ok (.aload_n 0, 1) := by decide +kernel
theorem dL_law_191 : decode cL_law 191 = .ok (.iload_n 3, 1) := by decide +kernel
theorem dL_law_192 : decode cL_law 192 = .ok (.bipush 6, 2) := by decide +kernel
theorem dL_law_194 : decode cL_law 194 = .ok (.iadd, 1) := by decide +kernel
theorem dL_law_195 : decode cL_law 195 = .ok (.iaload, 1) := by decide +kernel
theorem dL_law_196 : decode cL_law 196 = .ok (.invokevirtual 13, 3) := by decide +kernel
theorem dL_law_199 : decode cL_law 199 = .ok (.aload_n 2, 1) := by decide +kernel
theorem dL_law_200 : decode cL_law 200 = .ok (.aload_n 0, 1) := by decide +kernel
theorem dL_law_201 : decode cL_law 201 = .ok (.iload_n 3, 1) := by decide +kernel
theorem dL_law_202 : decode cL_law 202 = .ok (.iconst 1, 1) := by decide +kernel
theorem dL_law_203 : decode cL_law 203 = .ok (.iadd, 1) := by decide +kernel
theorem dL_law_204 : decode cL_law 204 = .ok (.iaload, 1) := by decide +kernel
theorem dL_law_205 : decode cL_law 205 = .ok (.aload_n 0, 1) := by decide +kernel
theorem dL_law_206 : decode cL_law 206 = .ok (.iload_n 3, 1) := by decide +kernel
theorem dL_law_207 : decode cL_law 207 = .ok (.iconst 2, 1) := by decide +kernel
theorem dL_law_208 : decode cL_law 208 = .ok (.iadd, 1) := by decide +kernel
theorem dL_law_209 : decode cL_law 209 = .ok (.iaload, 1) := by decide +kernel
theorem dL_law_210 : decode cL_law 210 = .ok (.aload_n 0, 1) := by decide +kernel
theorem dL_law_211 : decode cL_law 211 = .ok (.iload_n 3, 1) := by decide +kernel
theorem dL_law_212 : decode cL_law 212 = .ok (.iconst 3, 1) := by decide +kernel
theorem dL_law_213 : decode cL_law 213 = .ok (.iadd, 1) := by decide +kernel
theorem dL_law_214 : decode cL_law 214 = .ok (.iaload, 1) := by decide +kernel
theorem dL_law_215 : decode cL_law 215 = .ok (.aload_n 0, 1) := by decide +kernel
theorem dL_law_216 : decode cL_law 216 = .ok (.iload_n 3, 1) := by decide +kernel
theorem dL_law_217 : decode cL_law 217 = .ok (.iconst 4, 1) := by decide +kernel
theorem dL_law_218 : decode cL_law 218 = .ok (.iadd, 1) := by decide +kernel
theorem dL_law_219 : decode cL_law 219 = .ok (.iaload, 1) := by decide +kernel
theorem dL_law_220 : decode cL_law 220 = .ok (.aload_n 0, 1) := by decide +kernel
theorem dL_law_221 : decode cL_law 221 = .ok (.iload_n 3, 1) := by decide +kernel
theorem dL_law_222 : decode cL_law 222 = .ok (.iconst 5, 1) := by decide +kernel
theorem dL_law_223 : decode cL_law 223 = .ok (.iadd, 1) := by decide +kernel
theorem dL_law_224 : decode cL_law 224 = .ok (.iaload, 1) := by decide +kernel
theorem dL_law_225 : decode cL_law 225 = .ok (.aload_n 0, 1) := by decide +kernel
theorem dL_law_226 : decode cL_law 226 = .ok (.iload_n 3, 1) := by decide +kernel
theorem dL_law_227 : decode cL_law 227 = .ok (.bipush 6, 2) := by decide +kernel
theorem dL_law_229 : decode cL_law 229 = .ok (.iadd, 1) := by decide +kernel
theorem dL_law_230 : decode cL_law 230 = .ok (.iaload, 1) := by decide +kernel
theorem dL_law_231 : decode cL_law 231 = .ok (.invokevirtual 17, 3) := by decide +kernel
theorem dL_law_234 : decode cL_law 234 = .ok (.if_icmp .eq 847, 3) := by decide +kernel
theorem dL_law_237 : decode cL_law 237 = .ok (.iconst 0, 1) := by decide +kernel
theorem dL_law_238 : decode cL_law 238 = .ok (.ireturn, 1) := by decide +kernel
theorem dL_law_239 : decode cL_law 239 = .ok (.aload_n 1, 1) := by decide +kernel
theorem dL_law_240 : decode cL_law 240 = .ok (.aload_n 0, 1) := by decide +kernel
theorem dL_law_241 : decode cL_law 241 = .ok (.iload_n 3, 1) := by decide +kernel
theorem dL_law_242 : decode cL_law 242 = .ok (.iconst 1, 1) := by decide +kernel
theorem dL_law_243 : decode cL_law 243 = .ok (.iadd, 1) := by decide +kernel
theorem dL_law_244 : decode cL_law 244 = .ok (.iaload, 1) := by decide +kernel
theorem dL_law_245 : decode cL_law 245 = .ok (.aload_n 0, 1) := by decide +kernel
theorem dL_law_246 : decode cL_law 246 = .ok (.iload_n 3, 1) := by decide +kernel
theorem dL_law_247 : decode cL_law 247 = .ok (.iconst 2, 1) := by decide +kernel
theorem dL_law_248 : decode cL_law 248 = .ok (.iadd, 1) := by decide +kernel
theorem dL_law_249 : decode cL_law 249 = .ok (.iaload, 1) := by decide +kernel
theorem dL_law_250 : decode cL_law 250 = .ok (.aload_n 0, 1) := by decide +kernel
theorem dL_law_251 : decode cL_law 251 = .ok (.iload_n 3, 1) := by decide +kernel
theorem dL_law_252 : decode cL_law 252 = .ok (.iconst 3, 1) := by decide +kernel
theorem dL_law_253 : decode cL_law 253 = .ok (.iadd, 1) := by decide +kernel
theorem dL_law_254 : decode cL_law 254 = .ok (.iaload, 1) := by decide +kernel
theorem dL_law_255 : decode cL_law 255 = .ok (.aload_n 0, 1) := by decide +kernel
theorem dL_law_256 : decode cL_law 256 = .ok (.iload_n 3, 1) := by decide +kernel
theorem dL_law_257 : decode cL_law 257 = .ok (.iconst 4, 1) := by decide +kernel
theorem dL_law_258 : decode cL_law 258 = .ok (.iadd, 1) := by decide +kernel
theorem dL_law_259 : decode cL_law 259 = .ok (.iaload, 1) := by decide +kernel
theorem dL_law_260 : decode cL_law 260 = .ok (.aload_n 0, 1) := by decide +kernel
theorem dL_law_261 : decode cL_law 261 = .ok (.iload_n 3, 1) := by decide +kernel
theorem dL_law_262 : decode cL_law 262 = .ok (.iconst 5, 1) := by decide +kernel
theorem dL_law_263 : decode cL_law 263 = .ok (.iadd, 1) := by decide +kernel
theorem dL_law_264 : decode cL_law 264 = .ok (.iaload, 1) := by decide +kernel
theorem dL_law_265 : decode cL_law 265 = .ok (.invokevirtual 18, 3) := by decide +kernel
theorem dL_law_268 : decode cL_law 268 = .ok (.aload_n 2, 1) := by decide +kernel
theorem dL_law_269 : decode cL_law 269 = .ok (.aload_n 0, 1) := by decide +kernel
theorem dL_law_270 : decode cL_law 270 = .ok (.iload_n 3, 1) := by decide +kernel
theorem dL_law_271 : decode cL_law 271 = .ok (.iconst 1, 1) := by decide +kernel
theorem dL_law_272 : decode cL_law 272 = .ok (.iadd, 1) := by decide +kernel
theorem dL_law_273 : decode cL_law 273 = .ok (.iaload, 1) := by decide +kernel
theorem dL_law_274 : decode cL_law 274 = .ok (.aload_n 0, 1) := by decide +kernel
theorem dL_law_275 : decode cL_law 275 = .ok (.iload_n 3, 1) := by decide +kernel
theorem dL_law_276 : decode cL_law 276 = .ok (.iconst 2, 1) := by decide +kernel
theorem dL_law_277 : decode cL_law 277 = .ok (.iadd, 1) := by decide +kernel
theorem dL_law_278 : decode cL_law 278 = .ok (.iaload, 1) := by decide +kernel
theorem dL_law_279 : decode cL_law 279 = .ok (.aload_n 0, 1) := by decide +kernel
theorem dL_law_280 : decode cL_law 280 = .ok (.iload_n 3, 1) := by decide +kernel
theorem dL_law_281 : decode cL_law 281 = .ok (.iconst 3, 1) := by decide +kernel
theorem dL_law_282 : decode cL_law 282 = .ok (.iadd, 1) := by decide +kernel
theorem dL_law_283 : decode cL_law 283 = .ok (.iaload, 1) := by decide +kernel
theorem dL_law_284 : decode cL_law 284 = .ok (.aload_n 0, 1) := by decide +kernel
theorem dL_law_285 : decode cL_law 285 = .ok (.iload_n 3, 1) := by decide +kernel
theorem dL_law_286 : decode cL_law 286 = .ok (.iconst 4, 1) := by decide +kernel
theorem dL_law_287 : decode cL_law 287 = .ok (.iadd, 1) := by decide +kernel
theorem dL_law_288 : decode cL_law 288 = .ok (.iaload, 1) := by decide +kernel
theorem dL_law_289 : decode cL_law 289 = .ok (.aload_n 0, 1) := by decide +kernel
theorem dL_law_290 : decode cL_law 290 = .ok (.iload_n 3, 1) := by decide +kernel
theorem dL_law_291 : decode cL_law 291 = .ok (.iconst 5, 1) := by decide +kernel
theorem dL_law_292 : decode cL_law 292 = .ok (.iadd, 1) := by decide +kernel
theorem dL_law_293 : decode cL_law 293 = .ok (.iaload, 1) := by decide +kernel
theorem dL_law_294 : decode cL_law 294 = .ok (.invokevirtual 22, 3) := by decide +kernel
theorem dL_law_297 : decode cL_law 297 = .ok (.if_icmp .eq 784, 3) := by decide +kernel
theorem dL_law_300 : decode cL_law 300 = .ok (.iconst 0, 1) := by decide +kernel
theorem dL_law_301 : decode cL_law 301 = .ok (.ireturn, 1) := by decide +kernel
theorem dL_law_302 : decode cL_law 302 = .ok (.aload_n 1, 1) := by decide +kernel
theorem dL_law_303 : decode cL_law 303 = .ok (.aload_n 0, 1) := by decide +kernel
theorem dL_law_304 : decode cL_law 304 = .ok (.iload_n 3, 1) := by decide +kernel
theorem dL_law_305 : decode cL_law 305 = .ok (.iconst 1, 1) := by decide +kernel
theorem dL_law_306 : decode cL_law 306 = .ok (.iadd, 1) := by decide +kernel
theorem dL_law_307 : decode cL_law 307 = .ok (.iaload, 1) := by decide +kernel
theorem dL_law_308 : decode cL_law 308 = .ok (.aload_n 0, 1) := by decide +kernel
theorem dL_law_309 : decode cL_law 309 = .ok (.iload_n 3, 1) := by decide +kernel
theorem dL_law_310 : decode cL_law 310 = .ok (.iconst 2, 1) := by decide +kernel
theorem dL_law_311 : decode cL_law 311 = .ok (.iadd, 1) := by decide +kernel
theorem dL_law_312 : decode cL_law 312 = .ok (.iaload, 1) := by decide +kernel
theorem dL_law_313 : decode cL_law 313 = .ok (.ifCond .eq 7, 3) := by decide +kernel
theorem dL_law_316 : decode cL_law 316 = .ok (.iconst 1, 1) := by decide +kernel
theorem dL_law_317 : decode cL_law 317 = .ok (.goto 4, 3) := by decide +kernel
theorem dL_law_320 : decode cL_law 320 = .ok (.iconst 0, 1) := by decide +kernel
theorem dL_law_321 : decode cL_law 321 = .ok (.invokevirtual 23, 3) := by decide +kernel
theorem dL_law_324 : decode cL_law 324 = .ok (.aload_n 2, 1) := by decide +kernel
theorem dL_law_325 : decode cL_law 325 = .ok (.aload_n 0, 1) := by decide +kernel
theorem dL_law_326 : decode cL_law 326 = .ok (.iload_n 3, 1) := by decide +kernel
theorem dL_law_327 : decode cL_law 327 = .ok (.iconst 1, 1) := by decide +kernel
theorem dL_law_328 : decode cL_law 328 = .ok (.iadd, 1) := by decide +kernel
theorem dL_law_329 : decode cL_law 329 = .ok (.iaload, 1) := by decide +kernel
theorem dL_law_330 : decode cL_law 330 = .ok (.aload_n 0, 1) := by decide +kernel
theorem dL_law_331 : decode cL_law 331 = .ok (.iload_n 3, 1) := by decide +kernel
theorem dL_law_332 : decode cL_law 332 = .ok (.iconst 2, 1) := by decide +kernel
theorem dL_law_333 : decode cL_law 333 = .ok (.iadd, 1) := by decide +kernel
theorem dL_law_334 : decode cL_law 334 = .ok (.iaload, 1) := by decide +kernel
theorem dL_law_335 : decode cL_law 335 = .ok (.ifCond .eq 7, 3) := by decide +kernel
theorem dL_law_338 : decode cL_law 338 = .ok (.iconst 1, 1) := by decide +kernel
theorem dL_law_339 : decode cL_law 339 = .ok (.goto 4, 3) := by decide +kernel
theorem dL_law_342 : decode cL_law 342 = .ok (.iconst 0, 1) := by decide +kernel
theorem dL_law_343 : decode cL_law 343 = .ok (.invokevirtual 27, 3) := by decide +kernel
theorem dL_law_346 : decode cL_law 346 = .ok (.if_icmp .eq 735, 3) := by decide +kernel
theorem dL_law_349 : decode cL_law 349 = .ok (.iconst 0, 1) := by decide +kernel
theorem dL_law_350 : decode cL_law 350 = .ok (.ireturn, 1) := by decide +kernel
theorem dL_law_351 : decode cL_law 351 = .ok (.aload_n 1, 1) := by decide +kernel
theorem dL_law_352 : decode cL_law 352 = .ok (.aload_n 0, 1) := by decide +kernel
theorem dL_law_353 : decode cL_law 353 = .ok (.iload_n 3, 1) := by decide +kernel
theorem dL_law_354 : decode cL_law 354 = .ok (.iconst 1, 1) := by decide +kernel
theorem dL_law_355 : decode cL_law 355 = .ok (.iadd, 1) := by decide +kernel
theorem dL_law_356 : decode cL_law 356 = .ok (.iaload, 1) := by decide +kernel
theorem dL_law_357 : decode cL_law 357 = .ok (.aload_n 0, 1) := by decide +kernel
theorem dL_law_358 : decode cL_law 358 = .ok (.iload_n 3, 1) := by decide +kernel
theorem dL_law_359 : decode cL_law 359 = .ok (.iconst 2, 1) := by decide +kernel
theorem dL_law_360 : decode cL_law 360 = .ok (.iadd, 1) := by decide +kernel
theorem dL_law_361 : decode cL_law 361 = .ok (.iaload, 1) := by decide +kernel
theorem dL_law_362 : decode cL_law 362 = .ok (.aload_n 0, 1) := by decide +kernel
theorem dL_law_363 : decode cL_law 363 = .ok (.iload_n 3, 1) := by decide +kernel
theorem dL_law_364 : decode cL_law 364 = .ok (.iconst 3, 1) := by decide +kernel
theorem dL_law_365 : decode cL_law 365 = .ok (.iadd, 1) := by decide +kernel
theorem dL_law_366 : decode cL_law 366 = .ok (.iaload, 1) := by decide +kernel
theorem dL_law_367 : decode cL_law 367 = .ok (.invokevirtual 28, 3) := by decide +kernel
theorem dL_law_370 : decode cL_law 370 = .ok (.aload_n 2, 1) := by decide +kernel
theorem dL_law_371 : decode cL_law 371 = .ok (.aload_n 0, 1) := by decide +kernel
theorem dL_law_372 : decode cL_law 372 = .ok (.iload_n 3, 1) := by decide +kernel
theorem dL_law_373 : decode cL_law 373 = .ok (.iconst 1, 1) := by decide +kernel
theorem dL_law_374 : decode cL_law 374 = .ok (.iadd, 1) := by decide +kernel
theorem dL_law_375 : decode cL_law 375 = .ok (.iaload, 1) := by decide +kernel
theorem dL_law_376 : decode cL_law 376 = .ok (.aload_n 0, 1) := by decide +kernel
theorem dL_law_377 : decode cL_law 377 = .ok (.iload_n 3, 1) := by decide +kernel
theorem dL_law_378 : decode cL_law 378 = .ok (.iconst 2, 1) := by decide +kernel
theorem dL_law_379 : decode cL_law 379 = .ok (.iadd, 1) := by decide +kernel
theorem dL_law_380 : decode cL_law 380 = .ok (.iaload, 1) := by decide +kernel
theorem dL_law_381 : decode cL_law 381 = .ok (.aload_n 0, 1) := by decide +kernel
theorem dL_law_382 : decode cL_law 382 = .ok (.iload_n 3, 1) := by decide +kernel
theorem dL_law_383 : decode cL_law 383 = .ok (.iconst 3, 1) := by decide +kernel
theorem dL_law_384 : decode cL_law 384 = .ok (.iadd, 1) := by decide +kernel
theorem dL_law_385 : decode cL_law 385 = .ok (.iaload, 1) := by decide +kernel
theorem dL_law_386 : decode cL_law 386 = .ok (.invokevirtual 32, 3) := by decide +kernel
theorem dL_law_389 : decode cL_law 389 = .ok (.if_icmp .eq 692, 3) := by decide +kernel
theorem dL_law_392 : decode cL_law 392 = .ok (.iconst 0, 1) := by decide +kernel
theorem dL_law_393 : decode cL_law 393 = .ok (.ireturn, 1) := by decide +kernel
theorem dL_law_394 : decode cL_law 394 = .ok (.aload_n 1, 1) := by decide +kernel
theorem dL_law_395 : decode cL_law 395 = .ok (.aload_n 0, 1) := by decide +kernel
theorem dL_law_396 : decode cL_law 396 = .ok (.iload_n 3, 1) := by decide +kernel
theorem dL_law_397 : decode cL_law 397 = .ok (.iconst 1, 1) := by decide +kernel
theorem dL_law_398 : decode cL_law 398 = .ok (.iadd, 1) := by decide +kernel
theorem dL_law_399 : decode cL_law 399 = .ok (.iaload, 1) := by decide +kernel
theorem dL_law_400 : decode cL_law 400 = .ok (.i2l, 1) := by decide +kernel
theorem dL_law_401 : decode cL_law 401 = .ok (.bipush 32, 2) := by decide +kernel
theorem dL_law_403 : decode cL_law 403 = .ok (.lshl, 1) := by decide +kernel
theorem dL_law_404 : decode cL_law 404 = .ok (.aload_n 0, 1) := by decide +kernel
theorem dL_law_405 : decode cL_law 405 = .ok (.iload_n 3, 1) := by decide +kernel
theorem dL_law_406 : decode cL_law 406 = .ok (.iconst 2, 1) := by decide +kernel
theorem dL_law_407 : decode cL_law 407 = .ok (.iadd, 1) := by decide +kernel
theorem dL_law_408 : decode cL_law 408 = .ok (.iaload, 1) := by decide +kernel
theorem dL_law_409 : decode cL_law 409 = .ok (.i2l, 1) := by decide +kernel
theorem dL_law_410 : decode cL_law 410 = .ok (.ldc2_w 33, 3) := by decide +kernel
theorem dL_law_413 : decode cL_law 413 = .ok (.land, 1) := by decide +kernel
theorem dL_law_414 : decode cL_law 414 = .ok (.lor, 1) := by decide +kernel
theorem dL_law_415 : decode cL_law 415 = .ok (.aload_n 0, 1) := by decide +kernel
theorem dL_law_416 : decode cL_law 416 = .ok (.iload_n 3, 1) := by decide +kernel
theorem dL_law_417 : decode cL_law 417 = .ok (.iconst 3, 1) := by decide +kernel
theorem dL_law_418 : decode cL_law 418 = .ok (.iadd, 1) := by decide +kernel
theorem dL_law_419 : decode cL_law 419 = .ok (.iaload, 1) := by decide +kernel
theorem dL_law_420 : decode cL_law 420 = .ok (.invokevirtual 35, 3) := by decide +kernel
theorem dL_law_423 : decode cL_law 423 = .ok (.aload_n 2, 1) := by decide +kernel
theorem dL_law_424 : decode cL_law 424 = .ok (.aload_n 0, 1) := by decide +kernel
theorem dL_law_425 : decode cL_law 425 = .ok (.iload_n 3, 1) := by decide +kernel
theorem dL_law_426 : decode cL_law 426 = .ok (.iconst 1, 1) := by decide +kernel
theorem dL_law_427 : decode cL_law 427 = .ok (.iadd, 1) := by decide +kernel
theorem dL_law_428 : decode cL_law 428 = .ok (.iaload, 1) := by decide +kernel
theorem dL_law_429 : decode cL_law 429 = .ok (.i2l, 1) := by decide +kernel
theorem dL_law_430 : decode cL_law 430 = .ok (.bipush 32, 2) := by decide +kernel
theorem dL_law_432 : decode cL_law 432 = .ok (.lshl, 1) := by decide +kernel
theorem dL_law_433 : decode cL_law 433 = .ok (.aload_n 0, 1) := by decide +kernel
theorem dL_law_434 : decode cL_law 434 = .ok (.iload_n 3, 1) := by decide +kernel
theorem dL_law_435 : decode cL_law 435 = .ok (.iconst 2, 1) := by decide +kernel
theorem dL_law_436 : decode cL_law 436 = .ok (.iadd, 1) := by decide +kernel
theorem dL_law_437 : decode cL_law 437 = .ok (.iaload, 1) := by decide +kernel
theorem dL_law_438 : decode cL_law 438 = .ok (.i2l, 1) := by decide +kernel
theorem dL_law_439 : decode cL_law 439 = .ok (.ldc2_w 33, 3) := by decide +kernel
theorem dL_law_442 : decode cL_law 442 = .ok (.land, 1) := by decide +kernel
theorem dL_law_443 : decode cL_law 443 = .ok (.lor, 1) := by decide +kernel
theorem dL_law_444 : decode cL_law 444 = .ok (.aload_n 0, 1) := by decide +kernel
theorem dL_law_445 : decode cL_law 445 = .ok (.iload_n 3, 1) := by decide +kernel
theorem dL_law_446 : decode cL_law 446 = .ok (.iconst 3, 1) := by decide +kernel
theorem dL_law_447 : decode cL_law 447 = .ok (.iadd, 1) := by decide +kernel
theorem dL_law_448 : decode cL_law 448 = .ok (.iaload, 1) := by decide +kernel
theorem dL_law_449 : decode cL_law 449 = .ok (.invokevirtual 39, 3) := by decide +kernel
theorem dL_law_452 : decode cL_law 452 = .ok (.if_icmp .eq 629, 3) := by decide +kernel
theorem dL_law_455 : decode cL_law 455 = .ok (.iconst 0, 1) := by decide +kernel
theorem dL_law_456 : decode cL_law 456 = .ok (.ireturn, 1) := by decide +kernel
theorem dL_law_457 : decode cL_law 457 = .ok (.aload_n 1, 1) := by decide +kernel
theorem dL_law_458 : decode cL_law 458 = .ok (.invokevirtual 40, 3) := by decide +kernel
theorem dL_law_461 : decode cL_law 461 = .ok (.aload_n 2, 1) := by decide +kernel
theorem dL_law_462 : decode cL_law 462 = .ok (.invokevirtual 44, 3) := by decide +kernel
theorem dL_law_465 : decode cL_law 465 = .ok (.if_icmp .eq 616, 3) := by decide +kernel
theorem dL_law_468 : decode cL_law 468 = .ok (.iconst 0, 1) := by decide +kernel
theorem dL_law_469 : decode cL_law 469 = .ok (.ireturn, 1) := by decide +kernel
theorem dL_law_470 : decode cL_law 470 = .ok (.aload_n 1, 1) := by decide +kernel
theorem dL_law_471 : decode cL_law 471 = .ok (.invokevirtual 45, 3) := by decide +kernel
theorem dL_law_474 : decode cL_law 474 = .ok (.aload_n 2, 1) := by decide +kernel
theorem dL_law_475 : decode cL_law 475 = .ok (.invokevirtual 48, 3) := by decide +kernel
theorem dL_law_478 : decode cL_law 478 = .ok (.if_icmp .eq 603, 3) := by decide +kernel
theorem dL_law_481 : decode cL_law 481 = .ok (.iconst 0, 1) := by decide +kernel
theorem dL_law_482 : decode cL_law 482 = .ok (.ireturn, 1) := by decide +kernel
theorem dL_law_483 : decode cL_law 483 = .ok (.aload_n 1, 1) := by decide +kernel
theorem dL_law_484 : decode cL_law 484 = .ok (.aload_n 0, 1) := by decide +kernel
theorem dL_law_485 : decode cL_law 485 = .ok (.iload_n 3, 1) := by decide +kernel
theorem dL_law_486 : decode cL_law 486 = .ok (.iconst 1, 1) := by decide +kernel
theorem dL_law_487 : decode cL_law 487 = .ok (.iadd, 1) := by decide +kernel
theorem dL_law_488 : decode cL_law 488 = .ok (.iaload, 1) := by decide +kernel
theorem dL_law_489 : decode cL_law 489 = .ok (.aload_n 0, 1) := by decide +kernel
theorem dL_law_490 : decode cL_law 490 = .ok (.iload_n 3, 1) := by decide +kernel
theorem dL_law_491 : decode cL_law 491 = .ok (.iconst 2, 1) := by decide +kernel
theorem dL_law_492 : decode cL_law 492 = .ok (.iadd, 1) := by decide +kernel
theorem dL_law_493 : decode cL_law 493 = .ok (.iaload, 1) := by decide +kernel
theorem dL_law_494 : decode cL_law 494 = .ok (.aload_n 0, 1) := by decide +kernel
theorem dL_law_495 : decode cL_law 495 = .ok (.iload_n 3, 1) := by decide +kernel
theorem dL_law_496 : decode cL_law 496 = .ok (.iconst 3, 1) := by decide +kernel
theorem dL_law_497 : decode cL_law 497 = .ok (.iadd, 1) := by decide +kernel
theorem dL_law_498 : decode cL_law 498 = .ok (.iaload, 1) := by decide +kernel
theorem dL_law_499 : decode cL_law 499 = .ok (.invokevirtual 49, 3) := by decide +kernel
theorem dL_law_502 : decode cL_law 502 = .ok (.aload_n 2, 1) := by decide +kernel
theorem dL_law_503 : decode cL_law 503 = .ok (.aload_n 0, 1) := by decide +kernel
theorem dL_law_504 : decode cL_law 504 = .ok (.iload_n 3, 1) := by decide +kernel
theorem dL_law_505 : decode cL_law 505 = .ok (.iconst 1, 1) := by decide +kernel
theorem dL_law_506 : decode cL_law 506 = .ok (.iadd, 1) := by decide +kernel
theorem dL_law_507 : decode cL_law 507 = .ok (.iaload, 1) := by decide +kernel
theorem dL_law_508 : decode cL_law 508 = .ok (.aload_n 0, 1) := by decide +kernel
theorem dL_law_509 : decode cL_law 509 = .ok (.iload_n 3, 1) := by decide +kernel
theorem dL_law_510 : decode cL_law 510 = .ok (.iconst 2, 1) := by decide +kernel
theorem dL_law_511 : decode cL_law 511 = .ok (.iadd, 1) := by decide +kernel
theorem dL_law_512 : decode cL_law 512 = .ok (.iaload, 1) := by decide +kernel
theorem dL_law_513 : decode cL_law 513 = .ok (.aload_n 0, 1) := by decide +kernel
theorem dL_law_514 : decode cL_law 514 = .ok (.iload_n 3, 1) := by decide +kernel
theorem dL_law_515 : decode cL_law 515 = .ok (.iconst 3, 1) := by decide +kernel
theorem dL_law_516 : decode cL_law 516 = .ok (.iadd, 1) := by decide +kernel
theorem dL_law_517 : decode cL_law 517 = .ok (.iaload, 1) := by decide +kernel
theorem dL_law_518 : decode cL_law 518 = .ok (.invokevirtual 52, 3) := by decide +kernel
theorem dL_law_521 : decode cL_law 521 = .ok (.if_icmp .eq 560, 3) := by decide +kernel
theorem dL_law_524 : decode cL_law 524 = .ok (.iconst 0, 1) := by decide +kernel
theorem dL_law_525 : decode cL_law 525 = .ok (.ireturn, 1) := by decide +kernel
theorem dL_law_526 : decode cL_law 526 = .ok (.aload_n 1, 1) := by decide +kernel
theorem dL_law_527 : decode cL_law 527 = .ok (.aload_n 0, 1) := by decide +kernel
theorem dL_law_528 : decode cL_law 528 = .ok (.iload_n 3, 1) := by decide +kernel
theorem dL_law_529 : decode cL_law 529 = .ok (.iconst 1, 1) := by decide +kernel
theorem dL_law_530 : decode cL_law 530 = .ok (.iadd, 1) := by decide +kernel
theorem dL_law_531 : decode cL_law 531 = .ok (.iaload, 1) := by decide +kernel
theorem dL_law_532 : decode cL_law 532 = .ok (.aload_n 0, 1) := by decide +kernel
theorem dL_law_533 : decode cL_law 533 = .ok (.iload_n 3, 1) := by decide +kernel
theorem dL_law_534 : decode cL_law 534 = .ok (.iconst 2, 1) := by decide +kernel
theorem dL_law_535 : decode cL_law 535 = .ok (.iadd, 1) := by decide +kernel
theorem dL_law_536 : decode cL_law 536 = .ok (.iaload, 1) := by decide +kernel
theorem dL_law_537 : decode cL_law 537 = .ok (.aload_n 0, 1) := by decide +kernel
theorem dL_law_538 : decode cL_law 538 = .ok (.iload_n 3, 1) := by decide +kernel
theorem dL_law_539 : decode cL_law 539 = .ok (.iconst 3, 1) := by decide +kernel
theorem dL_law_540 : decode cL_law 540 = .ok (.iadd, 1) := by decide +kernel
theorem dL_law_541 : decode cL_law 541 = .ok (.iaload, 1) := by decide +kernel
theorem dL_law_542 : decode cL_law 542 = .ok (.invokevirtual 53, 3) := by decide +kernel
theorem dL_law_545 : decode cL_law 545 = .ok (.aload_n 2, 1) := by decide +kernel
theorem dL_law_546 : decode cL_law 546 = .ok (.aload_n 0, 1) := by decide +kernel
theorem dL_law_547 : decode cL_law 547 = .ok (.iload_n 3, 1) := by decide +kernel
theorem dL_law_548 : decode cL_law 548 = .ok (.iconst 1, 1) := by decide +kernel
theorem dL_law_549 : decode cL_law 549 = .ok (.iadd, 1) := by decide +kernel
theorem dL_law_550 : decode cL_law 550 = .ok (.iaload, 1) := by decide +kernel
theorem dL_law_551 : decode cL_law 551 = .ok (.aload_n 0, 1) := by decide +kernel
theorem dL_law_552 : decode cL_law 552 = .ok (.iload_n 3, 1) := by decide +kernel
theorem dL_law_553 : decode cL_law 553 = .ok (.iconst 2, 1) := by decide +kernel
theorem dL_law_554 : decode cL_law 554 = .ok (.iadd, 1) := by decide +kernel
theorem dL_law_555 : decode cL_law 555 = .ok (.iaload, 1) := by decide +kernel
theorem dL_law_556 : decode cL_law 556 = .ok (.aload_n 0, 1) := by decide +kernel
theorem dL_law_557 : decode cL_law 557 = .ok (.iload_n 3, 1) := by decide +kernel
theorem dL_law_558 : decode cL_law 558 = .ok (.iconst 3, 1) := by decide +kernel
theorem dL_law_559 : decode cL_law 559 = .ok (.iadd, 1) := by decide +kernel
theorem dL_law_560 : decode cL_law 560 = .ok (.iaload, 1) := by decide +kernel
theorem dL_law_561 : decode cL_law 561 = .ok (.invokevirtual 56, 3) := by decide +kernel
theorem dL_law_564 : decode cL_law 564 = .ok (.if_icmp .eq 517, 3) := by decide +kernel
theorem dL_law_567 : decode cL_law 567 = .ok (.iconst 0, 1) := by decide +kernel
theorem dL_law_568 : decode cL_law 568 = .ok (.ireturn, 1) := by decide +kernel
theorem dL_law_569 : decode cL_law 569 = .ok (.aload_n 1, 1) := by decide +kernel
theorem dL_law_570 : decode cL_law 570 = .ok (.aload_n 0, 1) := by decide +kernel
theorem dL_law_571 : decode cL_law 571 = .ok (.iload_n 3, 1) := by decide +kernel
theorem dL_law_572 : decode cL_law 572 = .ok (.iconst 1, 1) := by decide +kernel
theorem dL_law_573 : decode cL_law 573 = .ok (.iadd, 1) := by decide +kernel
theorem dL_law_574 : decode cL_law 574 = .ok (.iaload, 1) := by decide +kernel
theorem dL_law_575 : decode cL_law 575 = .ok (.invokevirtual 57, 3) := by decide +kernel
theorem dL_law_578 : decode cL_law 578 = .ok (.aload_n 2, 1) := by decide +kernel
theorem dL_law_579 : decode cL_law 579 = .ok (.aload_n 0, 1) := by decide +kernel
theorem dL_law_580 : decode cL_law 580 = .ok (.iload_n 3, 1) := by decide +kernel
theorem dL_law_581 : decode cL_law 581 = .ok (.iconst 1, 1) := by decide +kernel
theorem dL_law_582 : decode cL_law 582 = .ok (.iadd, 1) := by decide +kernel
theorem dL_law_583 : decode cL_law 583 = .ok (.iaload, 1) := by decide +kernel
theorem dL_law_584 : decode cL_law 584 = .ok (.invokevirtual 61, 3) := by decide +kernel
theorem dL_law_587 : decode cL_law 587 = .ok (.if_icmp .eq 494, 3) := by decide +kernel
theorem dL_law_590 : decode cL_law 590 = .ok (.iconst 0, 1) := by decide +kernel
theorem dL_law_591 : decode cL_law 591 = .ok (.ireturn, 1) := by decide +kernel
theorem dL_law_592 : decode cL_law 592 = .ok (.aload_n 1, 1) := by decide +kernel
theorem dL_law_593 : decode cL_law 593 = .ok (.aload_n 0, 1) := by decide +kernel
theorem dL_law_594 : decode cL_law 594 = .ok (.iload_n 3, 1) := by decide +kernel
theorem dL_law_595 : decode cL_law 595 = .ok (.iconst 1, 1) := by decide +kernel
theorem dL_law_596 : decode cL_law 596 = .ok (.iadd, 1) := by decide +kernel
theorem dL_law_597 : decode cL_law 597 = .ok (.iaload, 1) := by decide +kernel
theorem dL_law_598 : decode cL_law 598 = .ok (.invokevirtual 62, 3) := by decide +kernel
theorem dL_law_601 : decode cL_law 601 = .ok (.aload_n 2, 1) := by decide +kernel
theorem dL_law_602 : decode cL_law 602 = .ok (.aload_n 0, 1) := by decide +kernel
theorem dL_law_603 : decode cL_law 603 = .ok (.iload_n 3, 1) := by decide +kernel
theorem dL_law_604 : decode cL_law 604 = .ok (.iconst 1, 1) := by decide +kernel
theorem dL_law_605 : decode cL_law 605 = .ok (.iadd, 1) := by decide +kernel
theorem dL_law_606 : decode cL_law 606 = .ok (.iaload, 1) := by decide +kernel
theorem dL_law_607 : decode cL_law 607 = .ok (.invokevirtual 65, 3) := by decide +kernel
theorem dL_law_610 : decode cL_law 610 = .ok (.if_icmp .eq 471, 3) := by decide +kernel
theorem dL_law_613 : decode cL_law 613 = .ok (.iconst 0, 1) := by decide +kernel
theorem dL_law_614 : decode cL_law 614 = .ok (.ireturn, 1) := by decide +kernel
theorem dL_law_615 : decode cL_law 615 = .ok (.aload_n 1, 1) := by decide +kernel
theorem dL_law_616 : decode cL_law 616 = .ok (.aload_n 0, 1) := by decide +kernel
theorem dL_law_617 : decode cL_law 617 = .ok (.iload_n 3, 1) := by decide +kernel
theorem dL_law_618 : decode cL_law 618 = .ok (.iconst 1, 1) := by decide +kernel
theorem dL_law_619 : decode cL_law 619 = .ok (.iadd, 1) := by decide +kernel
theorem dL_law_620 : decode cL_law 620 = .ok (.iaload, 1) := by decide +kernel
theorem dL_law_621 : decode cL_law 621 = .ok (.aload_n 0, 1) := by decide +kernel
theorem dL_law_622 : decode cL_law 622 = .ok (.iload_n 3, 1) := by decide +kernel
theorem dL_law_623 : decode cL_law 623 = .ok (.iconst 2, 1) := by decide +kernel
theorem dL_law_624 : decode cL_law 624 = .ok (.iadd, 1) := by decide +kernel
theorem dL_law_625 : decode cL_law 625 = .ok (.iaload, 1) := by decide +kernel
theorem dL_law_626 : decode cL_law 626 = .ok (.invokevirtual 66, 3) := by decide +kernel
theorem dL_law_629 : decode cL_law 629 = .ok (.aload_n 2, 1) := by decide +kernel
theorem dL_law_630 : decode cL_law 630 = .ok (.aload_n 0, 1) := by decide +kernel
theorem dL_law_631 : decode cL_law 631 = .ok (.iload_n 3, 1) := by decide +kernel
theorem dL_law_632 : decode cL_law 632 = .ok (.iconst 1, 1) := by decide +kernel
theorem dL_law_633 : decode cL_law 633 = .ok (.iadd, 1) := by decide +kernel
theorem dL_law_634 : decode cL_law 634 = .ok (.iaload, 1) := by decide +kernel
theorem dL_law_635 : decode cL_law 635 = .ok (.aload_n 0, 1) := by decide +kernel
theorem dL_law_636 : decode cL_law 636 = .ok (.iload_n 3, 1) := by decide +kernel
theorem dL_law_637 : decode cL_law 637 = .ok (.iconst 2, 1) := by decide +kernel
theorem dL_law_638 : decode cL_law 638 = .ok (.iadd, 1) := by decide +kernel
theorem dL_law_639 : decode cL_law 639 = .ok (.iaload, 1) := by decide +kernel
theorem dL_law_640 : decode cL_law 640 = .ok (.invokevirtual 70, 3) := by decide +kernel
theorem dL_law_643 : decode cL_law 643 = .ok (.if_icmp .eq 438, 3) := by decide +kernel
theorem dL_law_646 : decode cL_law 646 = .ok (.iconst 0, 1) := by decide +kernel
theorem dL_law_647 : decode cL_law 647 = .ok (.ireturn, 1) := by decide +kernel
theorem dL_law_648 : decode cL_law 648 = .ok (.aload_n 1, 1) := by decide +kernel
theorem dL_law_649 : decode cL_law 649 = .ok (.aload_n 0, 1) := by decide +kernel
theorem dL_law_650 : decode cL_law 650 = .ok (.iload_n 3, 1) := by decide +kernel
theorem dL_law_651 : decode cL_law 651 = .ok (.iconst 1, 1) := by decide +kernel
theorem dL_law_652 : decode cL_law 652 = .ok (.iadd, 1) := by decide +kernel
theorem dL_law_653 : decode cL_law 653 = .ok (.iaload, 1) := by decide +kernel
theorem dL_law_654 : decode cL_law 654 = .ok (.aload_n 0, 1) := by decide +kernel
theorem dL_law_655 : decode cL_law 655 = .ok (.iload_n 3, 1) := by decide +kernel
theorem dL_law_656 : decode cL_law 656 = .ok (.iconst 2, 1) := by decide +kernel
theorem dL_law_657 : decode cL_law 657 = .ok (.iadd, 1) := by decide +kernel
theorem dL_law_658 : decode cL_law 658 = .ok (.iaload, 1) := by decide +kernel
theorem dL_law_659 : decode cL_law 659 = .ok (.aload_n 0, 1) := by decide +kernel
theorem dL_law_660 : decode cL_law 660 = .ok (.iload_n 3, 1) := by decide +kernel
theorem dL_law_661 : decode cL_law 661 = .ok (.iconst 3, 1) := by decide +kernel
theorem dL_law_662 : decode cL_law 662 = .ok (.iadd, 1) := by decide +kernel
theorem dL_law_663 : decode cL_law 663 = .ok (.iaload, 1) := by decide +kernel
theorem dL_law_664 : decode cL_law 664 = .ok (.aload_n 0, 1) := by decide +kernel
theorem dL_law_665 : decode cL_law 665 = .ok (.iload_n 3, 1) := by decide +kernel
theorem dL_law_666 : decode cL_law 666 = .ok (.iconst 4, 1) := by decide +kernel
theorem dL_law_667 : decode cL_law 667 = .ok (.iadd, 1) := by decide +kernel
theorem dL_law_668 : decode cL_law 668 = .ok (.iaload, 1) := by decide +kernel
theorem dL_law_669 : decode cL_law 669 = .ok (.invokevirtual 71, 3) := by decide +kernel
theorem dL_law_672 : decode cL_law 672 = .ok (.aload_n 2, 1) := by decide +kernel
theorem dL_law_673 : decode cL_law 673 = .ok (.aload_n 0, 1) := by decide +kernel
theorem dL_law_674 : decode cL_law 674 = .ok (.iload_n 3, 1) := by decide +kernel
theorem dL_law_675 : decode cL_law 675 = .ok (.iconst 1, 1) := by decide +kernel
theorem dL_law_676 : decode cL_law 676 = .ok (.iadd, 1) := by decide +kernel
theorem dL_law_677 : decode cL_law 677 = .ok (.iaload, 1) := by decide +kernel
theorem dL_law_678 : decode cL_law 678 = .ok (.aload_n 0, 1) := by decide +kernel
theorem dL_law_679 : decode cL_law 679 = .ok (.iload_n 3, 1) := by decide +kernel
theorem dL_law_680 : decode cL_law 680 = .ok (.iconst 2, 1) := by decide +kernel
theorem dL_law_681 : decode cL_law 681 = .ok (.iadd, 1) := by decide +kernel
theorem dL_law_682 : decode cL_law 682 = .ok (.iaload, 1) := by decide +kernel
theorem dL_law_683 : decode cL_law 683 = .ok (.aload_n 0, 1) := by decide +kernel
theorem dL_law_684 : decode cL_law 684 = .ok (.iload_n 3, 1) := by decide +kernel
theorem dL_law_685 : decode cL_law 685 = .ok (.iconst 3, 1) := by decide +kernel
theorem dL_law_686 : decode cL_law 686 = .ok (.iadd, 1) := by decide +kernel
theorem dL_law_687 : decode cL_law 687 = .ok (.iaload, 1) := by decide +kernel
theorem dL_law_688 : decode cL_law 688 = .ok (.aload_n 0, 1) := by decide +kernel
theorem dL_law_689 : decode cL_law 689 = .ok (.iload_n 3, 1) := by decide +kernel
theorem dL_law_690 : decode cL_law 690 = .ok (.iconst 4, 1) := by decide +kernel
theorem dL_law_691 : decode cL_law 691 = .ok (.iadd, 1) := by decide +kernel
theorem dL_law_692 : decode cL_law 692 = .ok (.iaload, 1) := by decide +kernel
theorem dL_law_693 : decode cL_law 693 = .ok (.invokevirtual 75, 3) := by decide +kernel
theorem dL_law_696 : decode cL_law 696 = .ok (.if_icmp .eq 385, 3) := by decide +kernel
theorem dL_law_699 : decode cL_law 699 = .ok (.iconst 0, 1) := by decide +kernel
theorem dL_law_700 : decode cL_law 700 = .ok (.ireturn, 1) := by decide +kernel
theorem dL_law_701 : decode cL_law 701 = .ok (.aload_n 1, 1) := by decide +kernel
theorem dL_law_702 : decode cL_law 702 = .ok (.invokevirtual 76, 3) := by decide +kernel
theorem dL_law_705 : decode cL_law 705 = .ok (.aload_n 2, 1) := by decide +kernel
theorem dL_law_706 : decode cL_law 706 = .ok (.invokevirtual 79, 3) := by decide +kernel
theorem dL_law_709 : decode cL_law 709 = .ok (.if_icmp .eq 372, 3) := by decide +kernel
theorem dL_law_712 : decode cL_law 712 = .ok (.iconst 0, 1) := by decide +kernel
theorem dL_law_713 : decode cL_law 713 = .ok (.ireturn, 1) := by decide +kernel
theorem dL_law_714 : decode cL_law 714 = .ok (.aload_n 1, 1) := by decide +kernel
theorem dL_law_715 : decode cL_law 715 = .ok (.aload_n 0, 1) := by decide +kernel
theorem dL_law_716 : decode cL_law 716 = .ok (.iload_n 3, 1) := by decide +kernel
theorem dL_law_717 : decode cL_law 717 = .ok (.iconst 1, 1) := by decide +kernel
theorem dL_law_718 : decode cL_law 718 = .ok (.iadd, 1) := by decide +kernel
theorem dL_law_719 : decode cL_law 719 = .ok (.iaload, 1) := by decide +kernel
theorem dL_law_720 : decode cL_law 720 = .ok (.invokevirtual 80, 3) := by decide +kernel
theorem dL_law_723 : decode cL_law 723 = .ok (.aload_n 2, 1) := by decide +kernel
theorem dL_law_724 : decode cL_law 724 = .ok (.aload_n 0, 1) := by decide +kernel
theorem dL_law_725 : decode cL_law 725 = .ok (.iload_n 3, 1) := by decide +kernel
theorem dL_law_726 : decode cL_law 726 = .ok (.iconst 1, 1) := by decide +kernel
theorem dL_law_727 : decode cL_law 727 = .ok (.iadd, 1) := by decide +kernel
theorem dL_law_728 : decode cL_law 728 = .ok (.iaload, 1) := by decide +kernel
theorem dL_law_729 : decode cL_law 729 = .ok (.invokevirtual 83, 3) := by decide +kernel
theorem dL_law_732 : decode cL_law 732 = .ok (.if_icmp .eq 349, 3) := by decide +kernel
theorem dL_law_735 : decode cL_law 735 = .ok (.iconst 0, 1) := by decide +kernel
theorem dL_law_736 : decode cL_law 736 = .ok (.ireturn, 1) := by decide +kernel
theorem dL_law_737 : decode cL_law 737 = .ok (.aload_n 1, 1) := by decide +kernel
theorem dL_law_738 : decode cL_law 738 = .ok (.aload_n 0, 1) := by decide +kernel
theorem dL_law_739 : decode cL_law 739 = .ok (.iload_n 3, 1) := by decide +kernel
theorem dL_law_740 : decode cL_law 740 = .ok (.iconst 1, 1) := by decide +kernel
theorem dL_law_741 : decode cL_law 741 = .ok (.iadd, 1) := by decide +kernel
theorem dL_law_742 : decode cL_law 742 = .ok (.iaload, 1) := by decide +kernel
theorem dL_law_743 : decode cL_law 743 = .ok (.invokevirtual 84, 3) := by decide +kernel
theorem dL_law_746 : decode cL_law 746 = .ok (.aload_n 2, 1) := by decide +kernel
theorem dL_law_747 : decode cL_law 747 = .ok (.aload_n 0, 1) := by decide +kernel
theorem dL_law_748 : decode cL_law 748 = .ok (.iload_n 3, 1) := by decide +kernel
theorem dL_law_749 : decode cL_law 749 = .ok (.iconst 1, 1) := by decide +kernel
theorem dL_law_750 : decode cL_law 750 = .ok (.iadd, 1) := by decide +kernel
theorem dL_law_751 : decode cL_law 751 = .ok (.iaload, 1) := by decide +kernel
theorem dL_law_752 : decode cL_law 752 = .ok (.invokevirtual 87, 3) := by decide +kernel
theorem dL_law_755 : decode cL_law 755 = .ok (.if_icmp .eq 326, 3) := by decide +kernel
theorem dL_law_758 : decode cL_law 758 = .ok (.iconst 0, 1) := by decide +kernel
theorem dL_law_759 : decode cL_law 759 = .ok (.ireturn, 1) := by decide +kernel
theorem dL_law_760 : decode cL_law 760 = .ok (.aload_n 1, 1) := by decide +kernel
theorem dL_law_761 : decode cL_law 761 = .ok (.aload_n 0, 1) := by decide +kernel
theorem dL_law_762 : decode cL_law 762 = .ok (.iload_n 3, 1) := by decide +kernel
theorem dL_law_763 : decode cL_law 763 = .ok (.iconst 1, 1) := by decide +kernel
theorem dL_law_764 : decode cL_law 764 = .ok (.iadd, 1) := by decide +kernel
theorem dL_law_765 : decode cL_law 765 = .ok (.iaload, 1) := by decide +kernel
theorem dL_law_766 : decode cL_law 766 = .ok (.invokevirtual 88, 3) := by decide +kernel
theorem dL_law_769 : decode cL_law 769 = .ok (.aload_n 2, 1) := by decide +kernel
theorem dL_law_770 : decode cL_law 770 = .ok (.aload_n 0, 1) := by decide +kernel
theorem dL_law_771 : decode cL_law 771 = .ok (.iload_n 3, 1) := by decide +kernel
theorem dL_law_772 : decode cL_law 772 = .ok (.iconst 1, 1) := by decide +kernel
theorem dL_law_773 : decode cL_law 773 = .ok (.iadd, 1) := by decide +kernel
theorem dL_law_774 : decode cL_law 774 = .ok (.iaload, 1) := by decide +kernel
theorem dL_law_775 : decode cL_law 775 = .ok (.invokevirtual 91, 3) := by decide +kernel
theorem dL_law_778 : decode cL_law 778 = .ok (.if_icmp .eq 303, 3) := by decide +kernel
theorem dL_law_781 : decode cL_law 781 = .ok (.iconst 0, 1) := by decide +kernel
theorem dL_law_782 : decode cL_law 782 = .ok (.ireturn, 1) := by decide +kernel
theorem dL_law_783 : decode cL_law 783 = .ok (.aload_n 1, 1) := by decide +kernel
theorem dL_law_784 : decode cL_law 784 = .ok (.aload_n 0, 1) := by decide +kernel
theorem dL_law_785 : decode cL_law 785 = .ok (.iload_n 3, 1) := by decide +kernel
theorem dL_law_786 : decode cL_law 786 = .ok (.iconst 1, 1) := by decide +kernel
theorem dL_law_787 : decode cL_law 787 = .ok (.iadd, 1) := by decide +kernel
theorem dL_law_788 : decode cL_law 788 = .ok (.iaload, 1) := by decide +kernel
theorem dL_law_789 : decode cL_law 789 = .ok (.aload_n 0, 1) := by decide +kernel
theorem dL_law_790 : decode cL_law 790 = .ok (.iload_n 3, 1) := by decide +kernel
theorem dL_law_791 : decode cL_law 791 = .ok (.iconst 2, 1) := by decide +kernel
theorem dL_law_792 : decode cL_law 792 = .ok (.iadd, 1) := by decide +kernel
theorem dL_law_793 : decode cL_law 793 = .ok (.iaload, 1) := by decide +kernel
theorem dL_law_794 : decode cL_law 794 = .ok (.aload_n 0, 1) := by decide +kernel
theorem dL_law_795 : decode cL_law 795 = .ok (.iload_n 3, 1) := by decide +kernel
theorem dL_law_796 : decode cL_law 796 = .ok (.iconst 3, 1) := by decide +kernel
theorem dL_law_797 : decode cL_law 797 = .ok (.iadd, 1) := by decide +kernel
theorem dL_law_798 : decode cL_law 798 = .ok (.iaload, 1) := by decide +kernel
theorem dL_law_799 : decode cL_law 799 = .ok (.invokevirtual 92, 3) := by decide +kernel
theorem dL_law_802 : decode cL_law 802 = .ok (.aload_n 2, 1) := by decide +kernel
theorem dL_law_803 : decode cL_law 803 = .ok (.aload_n 0, 1) := by decide +kernel
theorem dL_law_804 : decode cL_law 804 = .ok (.iload_n 3, 1) := by decide +kernel
theorem dL_law_805 : decode cL_law 805 = .ok (.iconst 1, 1) := by decide +kernel
theorem dL_law_806 : decode cL_law 806 = .ok (.iadd, 1) := by decide +kernel
theorem dL_law_807 : decode cL_law 807 = .ok (.iaload, 1) := by decide +kernel
theorem dL_law_808 : decode cL_law 808 = .ok (.aload_n 0, 1) := by decide +kernel
theorem dL_law_809 : decode cL_law 809 = .ok (.iload_n 3, 1) := by decide +kernel
theorem dL_law_810 : decode cL_law 810 = .ok (.iconst 2, 1) := by decide +kernel
theorem dL_law_811 : decode cL_law 811 = .ok (.iadd, 1) := by decide +kernel
theorem dL_law_812 : decode cL_law 812 = .ok (.iaload, 1) := by decide +kernel
theorem dL_law_813 : decode cL_law 813 = .ok (.aload_n 0, 1) := by decide +kernel
theorem dL_law_814 : decode cL_law 814 = .ok (.iload_n 3, 1) := by decide +kernel
theorem dL_law_815 : decode cL_law 815 = .ok (.iconst 3, 1) := by decide +kernel
theorem dL_law_816 : decode cL_law 816 = .ok (.iadd, 1) := by decide +kernel
theorem dL_law_817 : decode cL_law 817 = .ok (.iaload, 1) := by decide +kernel
theorem dL_law_818 : decode cL_law 818 = .ok (.invokevirtual 95, 3) := by decide +kernel
theorem dL_law_821 : decode cL_law 821 = .ok (.if_icmp .eq 260, 3) := by decide +kernel
theorem dL_law_824 : decode cL_law 824 = .ok (.iconst 0, 1) := by decide +kernel
theorem dL_law_825 : decode cL_law 825 = .ok (.ireturn, 1) := by decide +kernel
theorem dL_law_826 : decode cL_law 826 = .ok (.aload_n 1, 1) := by decide +kernel
theorem dL_law_827 : decode cL_law 827 = .ok (.aload_n 0, 1) := by decide +kernel
theorem dL_law_828 : decode cL_law 828 = .ok (.iload_n 3, 1) := by decide +kernel
theorem dL_law_829 : decode cL_law 829 = .ok (.iconst 1, 1) := by decide +kernel
theorem dL_law_830 : decode cL_law 830 = .ok (.iadd, 1) := by decide +kernel
theorem dL_law_831 : decode cL_law 831 = .ok (.iaload, 1) := by decide +kernel
theorem dL_law_832 : decode cL_law 832 = .ok (.invokevirtual 96, 3) := by decide +kernel
theorem dL_law_835 : decode cL_law 835 = .ok (.aload_n 2, 1) := by decide +kernel
theorem dL_law_836 : decode cL_law 836 = .ok (.aload_n 0, 1) := by decide +kernel
theorem dL_law_837 : decode cL_law 837 = .ok (.iload_n 3, 1) := by decide +kernel
theorem dL_law_838 : decode cL_law 838 = .ok (.iconst 1, 1) := by decide +kernel
theorem dL_law_839 : decode cL_law 839 = .ok (.iadd, 1) := by decide +kernel
theorem dL_law_840 : decode cL_law 840 = .ok (.iaload, 1) := by decide +kernel
theorem dL_law_841 : decode cL_law 841 = .ok (.invokevirtual 99, 3) := by decide +kernel
theorem dL_law_844 : decode cL_law 844 = .ok (.if_icmp .eq 237, 3) := by decide +kernel
theorem dL_law_847 : decode cL_law 847 = .ok (.iconst 0, 1) := by decide +kernel
theorem dL_law_848 : decode cL_law 848 = .ok (.ireturn, 1) := by decide +kernel
theorem dL_law_849 : decode cL_law 849 = .ok (.aload_n 1, 1) := by decide +kernel
theorem dL_law_850 : decode cL_law 850 = .ok (.aload_n 0, 1) := by decide +kernel
theorem dL_law_851 : decode cL_law 851 = .ok (.iload_n 3, 1) := by decide +kernel
theorem dL_law_852 : decode cL_law 852 = .ok (.iconst 1, 1) := by decide +kernel
theorem dL_law_853 : decode cL_law 853 = .ok (.iadd, 1) := by decide +kernel
theorem dL_law_854 : decode cL_law 854 = .ok (.iaload, 1) := by decide +kernel
theorem dL_law_855 : decode cL_law 855 = .ok (.aload_n 0, 1) := by decide +kernel
theorem dL_law_856 : decode cL_law 856 = .ok (.iload_n 3, 1) := by decide +kernel
theorem dL_law_857 : decode cL_law 857 = .ok (.iconst 2, 1) := by decide +kernel
theorem dL_law_858 : decode cL_law 858 = .ok (.iadd, 1) := by decide +kernel
theorem dL_law_859 : decode cL_law 859 = .ok (.iaload, 1) := by decide +kernel
theorem dL_law_860 : decode cL_law 860 = .ok (.invokevirtual 100, 3) := by decide +kernel
theorem dL_law_863 : decode cL_law 863 = .ok (.aload_n 2, 1) := by decide +kernel
theorem dL_law_864 : decode cL_law 864 = .ok (.aload_n 0, 1) := by decide +kernel
theorem dL_law_865 : decode cL_law 865 = .ok (.iload_n 3, 1) := by decide +kernel
theorem dL_law_866 : decode cL_law 866 = .ok (.iconst 1, 1) := by decide +kernel
theorem dL_law_867 : decode cL_law 867 = .ok (.iadd, 1) := by decide +kernel
theorem dL_law_868 : decode cL_law 868 = .ok (.iaload, 1) := by decide +kernel
theorem dL_law_869 : decode cL_law 869 = .ok (.aload_n 0, 1) := by decide +kernel
theorem dL_law_870 : decode cL_law 870 = .ok (.iload_n 3, 1) := by decide +kernel
theorem dL_law_871 : decode cL_law 871 = .ok (.iconst 2, 1) := by decide +kernel
theorem dL_law_872 : decode cL_law 872 = .ok (.iadd, 1) := by decide +kernel
theorem dL_law_873 : decode cL_law 873 = .ok (.iaload, 1) := by decide +kernel
theorem dL_law_874 : decode cL_law 874 = .ok (.invokevirtual 103, 3) := by decide +kernel
theorem dL_law_877 : decode cL_law 877 = .ok (.if_icmp .eq 204, 3) := by decide +kernel
theorem dL_law_880 : decode cL_law 880 = .ok (.iconst 0, 1) := by decide +kernel
theorem dL_law_881 : decode cL_law 881 = .ok (.ireturn, 1) := by decide +kernel
theorem dL_law_882 : decode cL_law 882 = .ok (.aload_n 1, 1) := by decide +kernel
theorem dL_law_883 : decode cL_law 883 = .ok (.aload_n 0, 1) := by decide +kernel
theorem dL_law_884 : decode cL_law 884 = .ok (.iload_n 3, 1) := by decide +kernel
theorem dL_law_885 : decode cL_law 885 = .ok (.iconst 1, 1) := by decide +kernel
theorem dL_law_886 : decode cL_law 886 = .ok (.iadd, 1) := by decide +kernel
theorem dL_law_887 : decode cL_law 887 = .ok (.iaload, 1) := by decide +kernel
theorem dL_law_888 : decode cL_law 888 = .ok (.invokevirtual 104, 3) := by decide +kernel
theorem dL_law_891 : decode cL_law 891 = .ok (.aload_n 2, 1) := by decide +kernel
theorem dL_law_892 : decode cL_law 892 = .ok (.aload_n 0, 1) := by decide +kernel
theorem dL_law_893 : decode cL_law 893 = .ok (.iload_n 3, 1) := by decide +kernel
theorem dL_law_894 : decode cL_law 894 = .ok (.iconst 1, 1) := by decide +kernel
theorem dL_law_895 : decode cL_law 895 = .ok (.iadd, 1) := by decide +kernel
theorem dL_law_896 : decode cL_law 896 = .ok (.iaload, 1) := by decide +kernel
theorem dL_law_897 : decode cL_law 897 = .ok (.invokevirtual 107, 3) := by decide +kernel
theorem dL_law_900 : decode cL_law 900 = .ok (.if_icmp .eq 181, 3) := by decide +kernel
theorem dL_law_903 : decode cL_law 903 = .ok (.iconst 0, 1) := by decide +kernel
theorem dL_law_904 : decode cL_law 904 = .ok (.ireturn, 1) := by decide +kernel
theorem dL_law_905 : decode cL_law 905 = .ok (.aload_n 1, 1) := by decide +kernel
theorem dL_law_906 : decode cL_law 906 = .ok (.invokevirtual 108, 3) := by decide +kernel
theorem dL_law_909 : decode cL_law 909 = .ok (.aload_n 2, 1) := by decide +kernel
theorem dL_law_910 : decode cL_law 910 = .ok (.invokevirtual 111, 3) := by decide +kernel
theorem dL_law_913 : decode cL_law 913 = .ok (.if_icmp .eq 168, 3) := by decide +kernel
theorem dL_law_916 : decode cL_law 916 = .ok (.iconst 0, 1) := by decide +kernel
theorem dL_law_917 : decode cL_law 917 = .ok (.ireturn, 1) := by decide +kernel
theorem dL_law_918 : decode cL_law 918 = .ok (.aload_n 1, 1) := by decide +kernel
theorem dL_law_919 : decode cL_law 919 = .ok (.aload_n 0, 1) := by decide +kernel
theorem dL_law_920 : decode cL_law 920 = .ok (.iload_n 3, 1) := by decide +kernel
theorem dL_law_921 : decode cL_law 921 = .ok (.iconst 1, 1) := by decide +kernel
theorem dL_law_922 : decode cL_law 922 = .ok (.iadd, 1) := by decide +kernel
theorem dL_law_923 : decode cL_law 923 = .ok (.iaload, 1) := by decide +kernel
theorem dL_law_924 : decode cL_law 924 = .ok (.aload_n 0, 1) := by decide +kernel
theorem dL_law_925 : decode cL_law 925 = .ok (.iload_n 3, 1) := by decide +kernel
theorem dL_law_926 : decode cL_law 926 = .ok (.iconst 2, 1) := by decide +kernel
theorem dL_law_927 : decode cL_law 927 = .ok (.iadd, 1) := by decide +kernel
theorem dL_law_928 : decode cL_law 928 = .ok (.iaload, 1) := by decide +kernel
theorem dL_law_929 : decode cL_law 929 = .ok (.invokevirtual 112, 3) := by decide +kernel
theorem dL_law_932 : decode cL_law 932 = .ok (.aload_n 2, 1) := by decide +kernel
theorem dL_law_933 : decode cL_law 933 = .ok (.aload_n 0, 1) := by decide +kernel
theorem dL_law_934 : decode cL_law 934 = .ok (.iload_n 3, 1) := by decide +kernel
theorem dL_law_935 : decode cL_law 935 = .ok (.iconst 1, 1) := by decide +kernel
theorem dL_law_936 : decode cL_law 936 = .ok (.iadd, 1) := by decide +kernel
theorem dL_law_937 : decode cL_law 937 = .ok (.iaload, 1) := by decide +kernel
theorem dL_law_938 : decode cL_law 938 = .ok (.aload_n 0, 1) := by decide +kernel
theorem dL_law_939 : decode cL_law 939 = .ok (.iload_n 3, 1) := by decide +kernel
theorem dL_law_940 : decode cL_law 940 = .ok (.iconst 2, 1) := by decide +kernel
theorem dL_law_941 : decode cL_law 941 = .ok (.iadd, 1) := by decide +kernel
theorem dL_law_942 : decode cL_law 942 = .ok (.iaload, 1) := by decide +kernel
theorem dL_law_943 : decode cL_law 943 = .ok (.invokevirtual 115, 3) := by decide +kernel
theorem dL_law_946 : decode cL_law 946 = .ok (.if_icmp .eq 135, 3) := by decide +kernel
theorem dL_law_949 : decode cL_law 949 = .ok (.iconst 0, 1) := by decide +kernel
theorem dL_law_950 : decode cL_law 950 = .ok (.ireturn, 1) := by decide +kernel
theorem dL_law_951 : decode cL_law 951 = .ok (.aload_n 1, 1) := by decide +kernel
theorem dL_law_952 : decode cL_law 952 = .ok (.aload_n 0, 1) := by decide +kernel
theorem dL_law_953 : decode cL_law 953 = .ok (.iload_n 3, 1) := by decide +kernel
theorem dL_law_954 : decode cL_law 954 = .ok (.iconst 1, 1) := by decide +kernel
theorem dL_law_955 : decode cL_law 955 = .ok (.iadd, 1) := by decide +kernel
theorem dL_law_956 : decode cL_law 956 = .ok (.iaload, 1) := by decide +kernel
theorem dL_law_957 : decode cL_law 957 = .ok (.invokevirtual 116, 3) := by decide +kernel
theorem dL_law_960 : decode cL_law 960 = .ok (.aload_n 2, 1) := by decide +kernel
theorem dL_law_961 : decode cL_law 961 = .ok (.aload_n 0, 1) := by decide +kernel
theorem dL_law_962 : decode cL_law 962 = .ok (.iload_n 3, 1) := by decide +kernel
theorem dL_law_963 : decode cL_law 963 = .ok (.iconst 1, 1) := by decide +kernel
theorem dL_law_964 : decode cL_law 964 = .ok (.iadd, 1) := by decide +kernel
theorem dL_law_965 : decode cL_law 965 = .ok (.iaload, 1) := by decide +kernel
theorem dL_law_966 : decode cL_law 966 = .ok (.invokevirtual 120, 3) := by decide +kernel
theorem dL_law_969 : decode cL_law 969 = .ok (.lcmp, 1) := by decide +kernel
theorem dL_law_970 : decode cL_law 970 = .ok (.ifCond .eq 111, 3) := by decide +kernel
theorem dL_law_973 : decode cL_law 973 = .ok (.iconst 0, 1) := by decide +kernel
theorem dL_law_974 : decode cL_law 974 = .ok (.ireturn, 1) := by decide +kernel
theorem dL_law_975 : decode cL_law 975 = .ok (.aload_n 1, 1) := by decide +kernel
theorem dL_law_976 : decode cL_law 976 = .ok (.aload_n 0, 1) := by decide +kernel
theorem dL_law_977 : decode cL_law 977 = .ok (.iload_n 3, 1) := by decide +kernel
theorem dL_law_978 : decode cL_law 978 = .ok (.iconst 1, 1) := by decide +kernel
theorem dL_law_979 : decode cL_law 979 = .ok (.iadd, 1) := by decide +kernel
theorem dL_law_980 : decode cL_law 980 = .ok (.iaload, 1) := by decide +kernel
theorem dL_law_981 : decode cL_law 981 = .ok (.invokevirtual 121, 3) := by decide +kernel
theorem dL_law_984 : decode cL_law 984 = .ok (.aload_n 2, 1) := by decide +kernel
theorem dL_law_985 : decode cL_law 985 = .ok (.aload_n 0, 1) := by decide +kernel
theorem dL_law_986 : decode cL_law 986 = .ok (.iload_n 3, 1) := by decide +kernel
theorem dL_law_987 : decode cL_law 987 = .ok (.iconst 1, 1) := by decide +kernel
theorem dL_law_988 : decode cL_law 988 = .ok (.iadd, 1) := by decide +kernel
theorem dL_law_989 : decode cL_law 989 = .ok (.iaload, 1) := by decide +kernel
theorem dL_law_990 : decode cL_law 990 = .ok (.invokevirtual 124, 3) := by decide +kernel
theorem dL_law_993 : decode cL_law 993 = .ok (.if_icmp .eq 88, 3) := by decide +kernel
theorem dL_law_996 : decode cL_law 996 = .ok (.iconst 0, 1) := by decide +kernel
theorem dL_law_997 : decode cL_law 997 = .ok (.ireturn, 1) := by decide +kernel
theorem dL_law_998 : decode cL_law 998 = .ok (.aload_n 1, 1) := by decide +kernel
theorem dL_law_999 : decode cL_law 999 = .ok (.aload_n 0, 1) := by decide +kernel
theorem dL_law_1000 : decode cL_law 1000 = .ok (.iload_n 3, 1) := by decide +kernel
theorem dL_law_1001 : decode cL_law 1001 = .ok (.iconst 1, 1) := by decide +kernel
theorem dL_law_1002 : decode cL_law 1002 = .ok (.iadd, 1) := by decide +kernel
theorem dL_law_1003 : decode cL_law 1003 = .ok (.iaload, 1) := by decide +kernel
theorem dL_law_1004 : decode cL_law 1004 = .ok (.invokevirtual 125, 3) := by decide +kernel
theorem dL_law_1007 : decode cL_law 1007 = .ok (.aload_n 2, 1) := by decide +kernel
theorem dL_law_1008 : decode cL_law 1008 = .ok (.aload_n 0, 1) := by decide +kernel
theorem dL_law_1009 : decode cL_law 1009 = .ok (.iload_n 3, 1) := by decide +kernel
theorem dL_law_1010 : decode cL_law 1010 = .ok (.iconst 1, 1) := by decide +kernel
theorem dL_law_1011 : decode cL_law 1011 = .ok (.iadd, 1) := by decide +kernel
theorem dL_law_1012 : decode cL_law 1012 = .ok (.iaload, 1) := by decide +kernel
theorem dL_law_1013 : decode cL_law 1013 = .ok (.invokevirtual 128, 3) := by decide +kernel
theorem dL_law_1016 : decode cL_law 1016 = .ok (.if_icmp .eq 65, 3) := by decide +kernel
theorem dL_law_1019 : decode cL_law 1019 = .ok (.iconst 0, 1) := by decide +kernel
theorem dL_law_1020 : decode cL_law 1020 = .ok (.ireturn, 1) := by decide +kernel
theorem dL_law_1021 : decode cL_law 1021 = .ok (.aload_n 1, 1) := by decide +kernel
theorem dL_law_1022 : decode cL_law 1022 = .ok (.aload_n 0, 1) := by decide +kernel
theorem dL_law_1023 : decode cL_law 1023 = .ok (.iload_n 3, 1) := by decide +kernel
theorem dL_law_1024 : decode cL_law 1024 = .ok (.iconst 1, 1) := by decide +kernel
theorem dL_law_1025 : decode cL_law 1025 = .ok (.iadd, 1) := by decide +kernel
theorem dL_law_1026 : decode cL_law 1026 = .ok (.iaload, 1) := by decide +kernel
theorem dL_law_1027 : decode cL_law 1027 = .ok (.invokevirtual 129, 3) := by decide +kernel
theorem dL_law_1030 : decode cL_law 1030 = .ok (.aload_n 2, 1) := by decide +kernel
theorem dL_law_1031 : decode cL_law 1031 = .ok (.aload_n 0, 1) := by decide +kernel
theorem dL_law_1032 : decode cL_law 1032 = .ok (.iload_n 3, 1) := by decide +kernel
theorem dL_law_1033 : decode cL_law 1033 = .ok (.iconst 1, 1) := by decide +kernel
theorem dL_law_1034 : decode cL_law 1034 = .ok (.iadd, 1) := by decide +kernel
theorem dL_law_1035 : decode cL_law 1035 = .ok (.iaload, 1) := by decide +kernel
theorem dL_law_1036 : decode cL_law 1036 = .ok (.invokevirtual 132, 3) := by decide +kernel
theorem dL_law_1039 : decode cL_law 1039 = .ok (.if_icmp .eq 42, 3) := by decide +kernel
theorem dL_law_1042 : decode cL_law 1042 = .ok (.iconst 0, 1) := by decide +kernel
theorem dL_law_1043 : decode cL_law 1043 = .ok (.ireturn, 1) := by decide +kernel
theorem dL_law_1044 : decode cL_law 1044 = .ok (.aload_n 1, 1) := by decide +kernel
theorem dL_law_1045 : decode cL_law 1045 = .ok (.aload_n 0, 1) := by decide +kernel
theorem dL_law_1046 : decode cL_law 1046 = .ok (.iload_n 3, 1) := by decide +kernel
theorem dL_law_1047 : decode cL_law 1047 = .ok (.iconst 1, 1) := by decide +kernel
theorem dL_law_1048 : decode cL_law 1048 = .ok (.iadd, 1) := by decide +kernel
theorem dL_law_1049 : decode cL_law 1049 = .ok (.iaload, 1) := by decide +kernel
theorem dL_law_1050 : decode cL_law 1050 = .ok (.invokevirtual 133, 3) := by decide +kernel
theorem dL_law_1053 : decode cL_law 1053 = .ok (.aload_n 2, 1) := by decide +kernel
theorem dL_law_1054 : decode cL_law 1054 = .ok (.aload_n 0, 1) := by decide +kernel
theorem dL_law_1055 : decode cL_law 1055 = .ok (.iload_n 3, 1) := by decide +kernel
theorem dL_law_1056 : decode cL_law 1056 = .ok (.iconst 1, 1) := by decide +kernel
theorem dL_law_1057 : decode cL_law 1057 = .ok (.iadd, 1) := by decide +kernel
theorem dL_law_1058 : decode cL_law 1058 = .ok (.iaload, 1) := by decide +kernel
theorem dL_law_1059 : decode cL_law 1059 = .ok (.invokevirtual 136, 3) := by decide +kernel
theorem dL_law_1062 : decode cL_law 1062 = .ok (.if_icmp .eq 19, 3) := by decide +kernel
theorem dL_law_1065 : decode cL_law 1065 = .ok (.iconst 0, 1) := by decide +kernel
theorem dL_law_1066 : decode cL_law 1066 = .ok (.ireturn, 1) := by decide +kernel
theorem dL_law_1067 : decode cL_law 1067 = .ok (.aload_n 1, 1) := by decide +kernel
theorem dL_law_1068 : decode cL_law 1068 = .ok (.invokevirtual 137, 3) := by decide +kernel
theorem dL_law_1071 : decode cL_law 1071 = .ok (.aload_n 2, 1) := by decide +kernel
theorem dL_law_1072 : decode cL_law 1072 = .ok (.invokevirtual 141, 3) := by decide +kernel
theorem dL_law_1075 : decode cL_law 1075 = .ok (.lcmp, 1) := by decide +kernel
theorem dL_law_1076 : decode cL_law 1076 = .ok (.ifCond .eq 5, 3) := by decide +kernel
theorem dL_law_1079 : decode cL_law 1079 = .ok (.iconst 0, 1) := by decide +kernel
theorem dL_law_1080 : decode cL_law 1080 = .ok (.ireturn, 1) := by decide +kernel
theorem dL_law_1081 : decode cL_law 1081 = .ok (.iinc 3 7, 3) := by decide +kernel
theorem dL_law_1084 : decode cL_law 1084 = .ok (.goto (-1066), 3) := by decide +kernel
theorem dL_law_1087 : decode cL_law 1087 = .ok (.iconst 1, 1) := by decide +kernel
theorem dL_law_1088 : decode cL_law 1088 = .ok (.ireturn, 1) := by decide +kernel
end
section
/-! the world: 180 cells by number; the memory holds whole numbers -/
abbrev gA : Type := Int ⊕ (Int ⊕ Nat)
abbrev vI (e : Int) : gA := Sum.inl e
abbrev vL (e : Int) : gA := Sum.inr (Sum.inl e)
abbrev vR (c : Nat) : gA := Sum.inr (Sum.inr c)
abbrev gM : Type := Nat → Int → Int
abbrev gG : Type := (Nat → Nat) × va_G × (ClassId × ClassId × ClassId)
def iI (e : Int) : Int32 := Int32.ofInt e
def lI (e : Int) : Int64 := Int64.ofInt e
def cv (g : gG) : gA → Value
  | .inl e => .int (iI e)
  | .inr (.inl e) => .long (lI e)
  | .inr (.inr c) => .ref (g.1 c)
def shL : List Nat := [4, 3, 8, 0, 6, 6, 6, 6, 6, 6, 6, 6, 6, 6, 6, 0, 6, 6, 6, 6, 6, 6, 6, 6, 6, 6, 6, 0, 6, 6, 6, 6, 6, 6, 6, 6, 6, 6, 6, 0, 6, 6, 6, 6, 6, 6, 6, 6, 6, 6, 6, 3, 8, 0, 6, 6, 6, 6, 6, 6, 6, 6, 6, 6, 6, 0, 6, 6, 6, 6, 6, 6, 6, 6, 6, 6, 6, 0, 6, 6, 6, 6, 6, 6, 6, 6, 6, 6, 6, 0, 6, 6, 6, 6, 6, 6, 6, 6, 6, 6, 6, 3, 8, 0, 6, 6, 6, 6, 6, 6, 6, 6, 6, 6, 6, 0, 6, 6, 6, 6, 6, 6, 6, 6, 6, 6, 6, 0, 6, 6, 6, 6, 6, 6, 6, 6, 6, 6, 6, 0, 6, 6, 6, 6, 6, 6, 6, 6, 6, 6, 6, 2, 6, 6, 1, 0, 6, 6, 6, 6, 6, 6, 6, 6, 6, 6, 6, 5, 6, 6, 7, 6, 6, 6, 6, 6, 7, 6, 6, 6]
def lnL : List Nat := [0, 0, 3, 0, 7, 7, 28, 7, 7, 6, 6, 6, 6, 6, 7, 0, 7, 7, 28, 7, 7, 6, 6, 6, 6, 6, 7, 0, 7, 7, 28, 7, 7, 6, 6, 6, 6, 6, 7, 0, 7, 7, 28, 7, 7, 6, 6, 6, 6, 6, 7, 0, 3, 0, 7, 7, 28, 7, 7, 6, 6, 6, 6, 6, 7, 0, 7, 7, 28, 7, 7, 6, 6, 6, 6, 6, 7, 0, 7, 7, 28, 7, 7, 6, 6, 6, 6, 6, 7, 0, 7, 7, 28, 7, 7, 6, 6, 6, 6, 6, 7, 0, 3, 0, 7, 7, 28, 7, 7, 6, 6, 6, 6, 6, 7, 0, 7, 7, 28, 7, 7, 6, 6, 6, 6, 6, 7, 0, 7, 7, 28, 7, 7, 6, 6, 6, 6, 6, 7, 0, 7, 7, 28, 7, 7, 6, 6, 6, 6, 6, 7, 0, 250, 6, 0, 0, 7, 7, 28, 7, 7, 6, 6, 6, 6, 6, 7, 0, 382, 764, 2, 3, 28, 7, 14, 14, 6, 250, 95, 6]
def cnL : List Nat := [3, 15, 27, 39, 53, 65, 77, 89, 103, 115, 127, 139, 155]
def sh (c : Nat) : Nat := shL.getD c 9
def ln (c : Nat) : Nat := lnL.getD c 0
def ftab : Nat → List Nat
  | 0 => [0, 0, 0, 3, 4, 5, 6, 7, 8, 9, 10, 11, 12, 13]
  | 1 => [1, 1]
  | 2 => [0, 3, 4, 0, 0, 0]
  | 3 => [4, 0, 0, 3]
  | 4 => [3, 53, 103, 153, 156, 157, 0, 0, 0]
  | 5 => [3, 4, 5, 6, 1, 1, 7, 8, 9, 10, 0, 11, 12, 0, 0, 0, 0, 0, 13, 14]
  | _ => []
def fv (g : gG) (μ : gM) (c k : Nat) : Nat → Value
  | 0 => .int (iI (μ c k))
  | 1 => .long (lI (μ c k))
  | d + 2 => .ref (g.1 (c + d))
def cellE (g : gG) (μ : gM) (c : Nat) : va_E := match sh c with
  | 6 => .inl (g.2.2.1, ln c, .inl (fun k => iI (μ c k)))
  | 7 => .inl (g.2.2.2.1, ln c, .inl (fun k => iI (μ c k)))
  | 8 => .inl (g.2.2.2.2, ln c, .inr (.inr (.inr (.inr (fun k => some (g.1 (μ c k).toNat))))))
  | n => .inr (n, (ftab n).mapIdx (fun k code => fv g μ c k code))
def wl (g : gG) (μ : gM) : va_W := (List.range 180).map (fun c => (g.1 c, cellE g μ c))
def wA (g : gG) : Nat → Prop := fun q => ∃ c, c < 180 ∧ q = g.1 c
def gOK (g : gG) : Prop := ∀ i j : Nat, i < 180 → j < 180 → g.1 i = g.1 j → i = j
def wr (μ : gM) (c : Nat) (i v : Int) : gM := fun a j => if a = c ∧ j = i then v else μ a j
theorem wr_o {μ : gM} {c a : Nat} {i v : Int} (h : a ≠ c) : wr μ c i v a = μ a := by
  funext j
  simp [wr, h]
theorem wr_s {μ : gM} {c : Nat} {i v : Int} : wr μ c i v c i = v := by simp [wr]
theorem wr_n {μ : gM} {c : Nat} {i j v : Int} (h : j ≠ i) : wr μ c i v c j = μ c j := by simp [wr, h]
theorem wl_len (g : gG) (μ : gM) : (wl g μ).length = 180 := by simp [wl]
theorem wl_get (g : gG) (μ : gM) {c : Nat} (h : c < 180) : (wl g μ)[c]? = some (g.1 c, cellE g μ c) := by
  simp [wl, List.getElem?_map, List.getElem?_range h]
theorem cellE_cg {g : gG} {μ μ' : gM} {c : Nat} (h : μ' c = μ c) : cellE g μ' c = cellE g μ c := by
  have hf : ∀ k code, fv g μ' c k code = fv g μ c k code := by
    intro k code
    rcases code with _ | _ | d <;> simp [fv, h]
  unfold cellE
  split <;> simp [h, hf]
theorem wl_set {g : gG} {μ μ' : gM} {c : Nat} {E : va_E} (hE : cellE g μ' c = E) (ho : ∀ a, a ≠ c → μ' a = μ a) : (wl g μ).set c (g.1 c, E) = wl g μ' := by
  apply List.ext_getElem?
  intro i
  by_cases hi : i < 180
  · rw [wl_get g μ' hi]
    by_cases hc : i = c
    · subst hc
      rw [List.getElem?_set_self (by rw [wl_len]; exact hi), hE]
    · rw [List.getElem?_set_ne (Ne.symm hc), wl_get g μ hi, cellE_cg (ho i hc)]
  · rw [List.getElem?_eq_none (by rw [List.length_set, wl_len]; omega), List.getElem?_eq_none (by rw [wl_len]; omega)]
theorem wl_D {g : gG} (h : gOK g) (μ : gM) : va_D (wA g) (wl g μ) := by
  have key : ∀ (k : Nat) (q : Nat × va_E), (wl g μ)[k]? = some q → k < 180 ∧ q.1 = g.1 k := by
    intro k q hk
    have hl : k < 180 := by
      have := (List.getElem?_eq_some_iff.mp hk).1
      rwa [wl_len] at this
    rw [wl_get g μ hl] at hk
    cases hk
    exact ⟨hl, rfl⟩
  refine ⟨fun i j p q hi hj hpq => ?_, fun k q hk => ?_⟩
  · obtain ⟨h1, h2⟩ := key i p hi
    obtain ⟨h3, h4⟩ := key j q hj
    exact h i j h1 h3 (by rw [← h2, ← h4]; exact hpq)
  · obtain ⟨h1, h2⟩ := key k q hk
    exact ⟨k, h1, h2⟩
def tysG (g : gG) : List (ClassId × FieldType) := [(g.2.2.1, .int), (g.2.2.2.1, .boolean), (g.2.2.2.2, .object RX0)]
def sLen : List Nat := [4, 5, 6]
def sByt : List (List Int32) := [[114, 111, 111, 102], [115, 116, 111, 114, 109], [99, 97, 110, 110, 111, 110]]
def wZ (g : gG) (U : State) (H : Heap) : Prop := vk_S 3 sLen sByt (fun i => g.1 (1000 + i)) (fun i => g.1 (2000 + i)) (wA g) U H ∧ va_Z "java/lang/String" "COMPACT_STRINGS" "Z" (.int 1) (wA g) U H
def wN (g : gG) (U : State) : Prop := va_Nw (.methodLinkNest RX2 87 yX4_within RX4) U ∧ vk_R RX2 43 "roof" (g.1 1000) U ∧ vk_R RX2 55 "storm" (g.1 1001) U ∧ vk_R RX2 63 "cannon" (g.1 1002) U
def wK (g : gG) (U : State) : Prop := va_K g.2.1 vwCl (tysG g) U ∧ wN g U ∧ wZ g U U.heap
abbrev gY : Type := MethodName × ByteArray × Nat × Option FieldType
def lw_gt : List Cond := lw_tbl.filter goodWord
theorem gt_of {w : Cond} (h : w ∈ lw_tbl) (hg : goodWord w = true) : w ∈ lw_gt := List.mem_filter.mpr ⟨h, hg⟩
theorem gt_good {w : Cond} (h : w ∈ lw_gt) : (w.onTables && w.keeps) = true ∨ ∃ ty, w = .arrayClass ty := good_of_word (List.mem_filter.mp h).2
def wsY (Y : gY) : List Cond := Cond.code Y.1 Y.2.1 Y.2.2.1 Y.2.2.2 :: lw_gt
def RM (d : Nat) : Room := { frames := d, cells := 0, slots := 0, locals := 40 * d }
abbrev gQ : Type := Option gA → gM → Prop
def QQ (g : gG) (post : gQ) : Array Value → State → Outcome → State → Prop := fun _ st oc t =>
  (∃ (r : Option gA) (μ' : gM), oc = .returned (r.map (cv g)) ∧ post r μ' ∧ va_P g.2.1 vwCl (wl g μ') t.heap) ∧ va_F (wA g) st t
def PP (g : gG) (av : List gA) (μ : gM) : Array Value → State → Prop := va_Pc (av.map (cv g)) (fun U => wK g U ∧ gOK g ∧ va_P g.2.1 vwCl (wl g μ) U.heap)
/-- a method's contract: from the memory μ and these arguments it ends, and 'post answer memory' -/
def CT (g : gG) (l : Launch) (Y : gY) (d : Nat) (av : List gA) (μ : gM) (post : gQ) : Prop := Met l Y.1 (wsY Y) (RM d) (PP g av μ) (QQ g post) 0 0 (wA g)
def LV (g : gG) (ls : Array Slot) (nL : Nat) (lv : List (Option gA)) : Prop := ls.size = nL ∧ lv_wf ls ∧ ∀ (k : Nat) (v : gA), lv[k]? = some (some v) → ls[k]? = some (.val (cv g v))
def CX (g : gG) (Y : gY) (p : Program) (s : State) (m : MethodId) (args : Array Value) (meth : Method) (c : Code) : Prop :=
  p.tables.exec = Jvm.exec ∧ c.code = Y.2.1 ∧ meth.sig.returnType = Y.2.2.2 ∧ c.maxLocals = Y.2.2.1 ∧ s.vm.findClass Y.1.cls = some m.cls ∧ (∀ w ∈ lw_gt, w.before args s = true) ∧ meth.locks = false ∧ wK g s ∧ gOK g
/-- the walk: at pc, with these locals, this stack, this memory, the method comes to its end with 'post' -/
def WA (g : gG) (l : Launch) (Y : gY) (d : Nat) (post : gQ) (pc : Nat) (lv : List (Option gA)) (st : List gA) (μ : gM) : Prop :=
  ∀ (p : Program) (e : Env) (s : State) (m : MethodId) (args : Array Value) (below : List Frame) (meth : Method) (c : Code) (H : Heap) (locs : List Loc) (ls : Array Slot),
    CX g Y p s m args meth c → LV g ls Y.2.2.1 lv → va_P g.2.1 vwCl (wl g μ) H → va_S (wA g) s.heap H locs →
    W p l e (RM d) s m args below meth c H locs 0 0 (MQ below (QQ g post) args s 0 0 (wA g)) (F0 m pc ls (st.map (cv g)))
def eL : List gA → List (Option gA)
  | [] => []
  | .inr (.inl e) :: r => some (vL e) :: none :: eL r
  | v :: r => some v :: eL r
theorem cv_cat (g : gG) (v : gA) : (cv g v).category = (match v with | .inr (.inl _) => 2 | _ => 1) := by
  rcases v with e | e | c <;> rfl
theorem eL_args (g : gG) : ∀ (av : List gA) (i k : Nat) (v : gA), (eL av)[k]? = some (some v) → (i + k, cv g v) ∈ lv_args i (av.map (cv g))
  | [], i, k, v, h => by simp [eL] at h
  | .inl e :: r, i, k, v, h => by
    simp only [List.map_cons, lv_args]
    cases k with
    | zero => simp [eL] at h; subst h; exact List.mem_cons_self
    | succ k =>
      have h2 := eL_args g r (i + 1) k v (by simpa [eL] using h)
      refine List.mem_cons_of_mem _ ?_
      have e1 : i + (k + 1) = i + 1 + k := by omega
      rw [e1]
      simpa [cv, Value.category] using h2
  | .inr (.inr c) :: r, i, k, v, h => by
    simp only [List.map_cons, lv_args]
    cases k with
    | zero => simp [eL] at h; subst h; exact List.mem_cons_self
    | succ k =>
      have h2 := eL_args g r (i + 1) k v (by simpa [eL] using h)
      refine List.mem_cons_of_mem _ ?_
      have e1 : i + (k + 1) = i + 1 + k := by omega
      rw [e1]
      simpa [cv, Value.category] using h2
  | .inr (.inl e) :: r, i, k, v, h => by
    simp only [List.map_cons, lv_args]
    match k with
    | 0 => simp [eL] at h; subst h; exact List.mem_cons_self
    | 1 => simp [eL] at h
    | k + 2 =>
      have h2 := eL_args g r (i + 2) k v (by simpa [eL] using h)
      refine List.mem_cons_of_mem _ ?_
      have e1 : i + (k + 2) = i + 2 + k := by omega
      rw [e1]
      simpa [cv, Value.category] using h2
theorem eL_len (g : gG) : ∀ av : List gA, (lg_sl (av.map (cv g))).length = (eL av).length
  | [] => rfl
  | .inl e :: r => by simpa [lg_sl, eL, cv, Value.category] using eL_len g r
  | .inr (.inr c) :: r => by simpa [lg_sl, eL, cv, Value.category] using eL_len g r
  | .inr (.inl e) :: r => by
    have := eL_len g r
    simp [lg_sl, eL, cv, Value.category] at this ⊢
    omega
theorem PP_blind (g : gG) (av : List gA) (μ : gM) : FrameBlind (PP g av μ) := by
  intro a U gg mk q
  obtain ⟨q0, ⟨qK, ⟨qN, q1, q2, q3⟩, qZ⟩, qO, qP⟩ := q
  exact ⟨q0, ⟨va_K.moved (u := U) (U := U.calling gg mk a) (Vm.Alike.refl U.vm) qK, ⟨qN, q1.same rfl, q2.same rfl, q3.same rfl⟩, ⟨qZ.1.moved (u := U) (U := U.calling gg mk a) (Vm.Alike.refl U.vm), qZ.2.moved (u := U) (U := U.calling gg mk a) (Vm.Alike.refl U.vm)⟩⟩, qO, qP⟩
theorem CT.of {g : gG} {l : Launch} {Y : gY} {d : Nat} {av : List gA} {μ : gM} {post : gQ} {n : Nat} (hy : plainName Y.1.cls = true) (hn : (eL av).length + n = Y.2.2.1) (h : WA g l Y d post 0 (eL av ++ List.replicate n none) [] μ) : CT g l Y d av μ post := by
  refine Met.ofW (cc := Y.2.1) (maxL := Y.2.2.1) (ret := Y.2.2.2) hy rfl ?_
  intro p e s m args below meth c s₁ B hml hv
  obtain ⟨rfl, hK, hO, hP⟩ := hv
  have hts := atoms_spec (ws := wsY Y) B.pre
  have hl := lv_entry (av.map (cv g)) (n := Y.2.2.1) (by rw [eL_len]; omega)
  rw [lg_entry_eq]
  refine h p e s m _ below meth c s.heap [] _ ⟨B.exec, B.bytes, B.returns, hml, findClass_of_methodNamed B.named, fun w hw => hts w (List.mem_cons_of_mem _ hw), B.notSynchronized, hK, hO⟩ ⟨hl.1, hl.2.1, fun k v hk => ?_⟩ hP va_S.rf
  have hk2 : (eL av)[k]? = some (some v) := by
    by_cases hlt : k < (eL av).length
    · rwa [List.getElem?_append_left hlt] at hk
    · rw [List.getElem?_append_right (by omega)] at hk
      have := List.eq_of_mem_replicate (List.mem_of_getElem? hk)
      cases this
  have := eL_args g av 0 k v hk2
  rw [Nat.zero_add] at this
  exact hl.2.2 _ this
end
section
/-! numbers -/
theorem iI_add (a b : Int) : iI a + iI b = iI (a + b) := (Int32.ofInt_add a b).symm
theorem iI_sub (a b : Int) : iI a - iI b = iI (a - b) := (Int32.ofInt_sub a b).symm
theorem iI_mul (a b : Int) : iI a * iI b = iI (a * b) := (Int32.ofInt_mul a b).symm
theorem iI_neg (a : Int) : -iI a = iI (-a) := (Int32.ofInt_neg a).symm
theorem lI_add (a b : Int) : lI a + lI b = lI (a + b) := (Int64.ofInt_add a b).symm
theorem lI_sub (a b : Int) : lI a - lI b = lI (a - b) := (Int64.ofInt_sub a b).symm
theorem lI_mul (a b : Int) : lI a * lI b = lI (a * b) := (Int64.ofInt_mul a b).symm
theorem lI_neg (a : Int) : -lI a = lI (-a) := (Int64.ofInt_neg a).symm
theorem iI_of (x : Int32) : iI x.toInt = x := Int32.ofInt_toInt x
theorem lI_of (x : Int64) : lI x.toInt = x := Int64.ofInt_toInt x
theorem iI_toInt {e : Int} (h : -2147483648 ≤ e ∧ e < 2147483648) : (iI e).toInt = e := Int32.toInt_ofInt_of_le h.1 h.2
theorem lI_toInt {e : Int} (h : -9223372036854775808 ≤ e ∧ e < 9223372036854775808) : (lI e).toInt = e := Int64.toInt_ofInt_of_le h.1 h.2
theorem iI_lt {a b : Int} (ha : -2147483648 ≤ a ∧ a < 2147483648) (hb : -2147483648 ≤ b ∧ b < 2147483648) : iI a < iI b ↔ a < b := by
  rw [Int32.lt_iff_toInt_lt, iI_toInt ha, iI_toInt hb]
theorem iI_le {a b : Int} (ha : -2147483648 ≤ a ∧ a < 2147483648) (hb : -2147483648 ≤ b ∧ b < 2147483648) : iI a ≤ iI b ↔ a ≤ b := by
  rw [Int32.le_iff_toInt_le, iI_toInt ha, iI_toInt hb]
theorem iI_eq {a b : Int} (ha : -2147483648 ≤ a ∧ a < 2147483648) (hb : -2147483648 ≤ b ∧ b < 2147483648) : iI a = iI b ↔ a = b := by
  rw [← Int32.toInt_inj, iI_toInt ha, iI_toInt hb]
theorem iI_0 : iI 0 = 0 := rfl
theorem lI_lt {a b : Int} (ha : -9223372036854775808 ≤ a ∧ a < 9223372036854775808) (hb : -9223372036854775808 ≤ b ∧ b < 9223372036854775808) : lI a < lI b ↔ a < b := by
  rw [Int64.lt_iff_toInt_lt, lI_toInt ha, lI_toInt hb]
theorem lI_eq {a b : Int} (ha : -9223372036854775808 ≤ a ∧ a < 9223372036854775808) (hb : -9223372036854775808 ≤ b ∧ b < 9223372036854775808) : lI a = lI b ↔ a = b := by
  rw [← Int64.toInt_inj, lI_toInt ha, lI_toInt hb]
theorem iI_in {i : Int} {n : Nat} (h : 0 ≤ i ∧ i < n) (hn : n < 2147483648) : vp_in (iI i) n := by
  rw [vp_in_iff, iI_toInt (by omega)]
  exact h
theorem iI_nat {i : Int} {n : Nat} (h : 0 ≤ i ∧ i < n) (hn : n < 2147483648) : (((iI i).toNatClampNeg : Nat) : Int) = i := by
  show (((iI i).toInt.toNat : Nat) : Int) = i
  rw [iI_toInt (by omega)]
  omega
theorem iI_div {a b : Int} (ha : 0 ≤ a ∧ a < 2147483648) (hb : 0 < b ∧ b < 2147483648) : iI a / iI b = iI (a / b) := by
  have h1 : 0 ≤ a / b := Int.ediv_nonneg ha.1 (by omega)
  have h2 : a / b ≤ a := Int.ediv_le_self b ha.1
  rw [← Int32.toInt_inj, Int32.toInt_div, iI_toInt (by omega), iI_toInt (by omega), iI_toInt (by omega), Int.tdiv_eq_ediv_of_nonneg ha.1]
  rw [Int.bmod_eq_of_le] <;> omega
theorem lI_div {a b : Int} (ha : 0 ≤ a ∧ a < 9223372036854775808) (hb : 0 < b ∧ b < 9223372036854775808) : lI a / lI b = lI (a / b) := by
  have h1 : 0 ≤ a / b := Int.ediv_nonneg ha.1 (by omega)
  have h2 : a / b ≤ a := Int.ediv_le_self b ha.1
  rw [← Int64.toInt_inj, Int64.toInt_div, lI_toInt (by omega), lI_toInt (by omega), lI_toInt (by omega), Int.tdiv_eq_ediv_of_nonneg ha.1]
  rw [Int.bmod_eq_of_le] <;> omega
theorem iI_rem {a b : Int} (ha : 0 ≤ a ∧ a < 2147483648) (hb : 0 < b ∧ b < 2147483648) : iI a - iI a / iI b * iI b = iI (a % b) := by
  rw [iI_div ha hb, iI_mul, iI_sub]
  congr 1
  have := Int.emod_add_mul_ediv a b
  rw [Int.mul_comm] at this
  omega
theorem lI_rem {a b : Int} (ha : 0 ≤ a ∧ a < 9223372036854775808) (hb : 0 < b ∧ b < 9223372036854775808) : lI a - lI a / lI b * lI b = lI (a % b) := by
  rw [lI_div ha hb, lI_mul, lI_sub]
  congr 1
  have := Int.emod_add_mul_ediv a b
  rw [Int.mul_comm] at this
  omega
theorem iI_l {e : Int} (h : -2147483648 ≤ e ∧ e < 2147483648) : (iI e).toInt64 = lI e := by
  rw [← Int64.toInt_inj, Int32.toInt_toInt64, iI_toInt h, lI_toInt (by omega)]
theorem lI_i (e : Int) : (lI e).toInt32 = iI e := by
  simp [lI, iI, Int64.toInt32_ofInt]
theorem iI_max {a b : Int} (ha : -2147483648 ≤ a ∧ a < 2147483648) (hb : -2147483648 ≤ b ∧ b < 2147483648) : (if iI a < iI b then iI b else iI a) = iI (max a b) := by
  by_cases h : a < b
  · rw [if_pos ((iI_lt ha hb).mpr h), Int.max_eq_right (by omega)]
  · rw [if_neg (fun q => h ((iI_lt ha hb).mp q)), Int.max_eq_left (by omega)]
theorem iI_min {a b : Int} (ha : -2147483648 ≤ a ∧ a < 2147483648) (hb : -2147483648 ≤ b ∧ b < 2147483648) : (if iI b < iI a then iI b else iI a) = iI (min a b) := by
  by_cases h : b < a
  · rw [if_pos ((iI_lt hb ha).mpr h), Int.min_eq_right (by omega)]
  · rw [if_neg (fun q => h ((iI_lt hb ha).mp q)), Int.min_eq_left (by omega)]
end
section
theorem w_iconst {g : gG} {l : Launch} {Y : gY} {d : Nat} {post : gQ} {pc : Nat} {lv : List (Option gA)} {st : List gA} {μ : gM} {n : Int} (hd : decode Y.2.1 pc = .ok (.iconst n, 1)) (kk : WA g l Y d post (pc + 1) lv (vI n :: st) μ) : WA g l Y d post (pc) lv (st) μ := by
  intro p en s m args below meth c H locs ls C L hP hS
  exact lv_iconst C.1 C.2.1 hd rfl (kk p en s m args below meth c H locs ls C L hP hS)
theorem w_bipush {g : gG} {l : Launch} {Y : gY} {d : Nat} {post : gQ} {pc : Nat} {lv : List (Option gA)} {st : List gA} {μ : gM} {n : Int} (hd : decode Y.2.1 pc = .ok (.bipush n, 2)) (hn : (Int8.ofInt n).toInt32 = iI n) (kk : WA g l Y d post (pc + 2) lv (vI n :: st) μ) : WA g l Y d post (pc) lv (st) μ := by
  intro p en s m args below meth c H locs ls C L hP hS
  exact lv_bipush C.1 C.2.1 hd hn (kk p en s m args below meth c H locs ls C L hP hS)
theorem w_sipush {g : gG} {l : Launch} {Y : gY} {d : Nat} {post : gQ} {pc : Nat} {lv : List (Option gA)} {st : List gA} {μ : gM} {n : Int} (hd : decode Y.2.1 pc = .ok (.sipush n, 3)) (hn : (Int16.ofInt n).toInt32 = iI n) (kk : WA g l Y d post (pc + 3) lv (vI n :: st) μ) : WA g l Y d post (pc) lv (st) μ := by
  intro p en s m args below meth c H locs ls C L hP hS
  exact lv_sipush C.1 C.2.1 hd hn (kk p en s m args below meth c H locs ls C L hP hS)
theorem w_lconst {g : gG} {l : Launch} {Y : gY} {d : Nat} {post : gQ} {pc : Nat} {lv : List (Option gA)} {st : List gA} {μ : gM} {n : Fin 2} (v : Int) (hd : decode Y.2.1 pc = .ok (.lconst n, 1)) (hn : Int64.ofNat (n : Nat) = lI v) (kk : WA g l Y d post (pc + 1) lv (vL v :: st) μ) : WA g l Y d post (pc) lv (st) μ := by
  intro p en s m args below meth c H locs ls C L hP hS
  exact lv_lconst C.1 C.2.1 hd hn (kk p en s m args below meth c H locs ls C L hP hS)
theorem w_ldc2 {g : gG} {l : Launch} {Y : gY} {d : Nat} {post : gQ} {pc : Nat} {lv : List (Option gA)} {st : List gA} {μ : gM} {i : Nat} {x : Int64} (v : Int) (hw : Cond.constantLong Y.1.cls i x ∈ lw_gt) (hd : decode Y.2.1 pc = .ok (.ldc2_w i, 3)) (hn : x = lI v) (kk : WA g l Y d post (pc + 3) lv (vL v :: st) μ) : WA g l Y d post (pc) lv (st) μ := by
  intro p en s m args below meth c H locs ls C L hP hS
  subst hn
  exact lv_ldc2 C.1 C.2.1 C.2.2.2.2.1 (C.2.2.2.2.2.1 _ hw) hd (kk p en s m args below meth c H locs ls C L hP hS)
theorem w_ldc {g : gG} {l : Launch} {Y : gY} {d : Nat} {post : gQ} {pc : Nat} {lv : List (Option gA)} {st : List gA} {μ : gM} {i : Nat} {x : Int32} (v : Int) (hw : Cond.constant Y.1.cls i x ∈ lw_gt) (hd : decode Y.2.1 pc = .ok (.ldc i, 2)) (hn : x = iI v) (kk : WA g l Y d post (pc + 2) lv (vI v :: st) μ) : WA g l Y d post (pc) lv (st) μ := by
  intro p en s m args below meth c H locs ls C L hP hS
  subst hn
  exact lv_ldc C.1 C.2.1 C.2.2.2.2.1 (C.2.2.2.2.2.1 _ hw) hd (kk p en s m args below meth c H locs ls C L hP hS)
theorem w_iload_n {g : gG} {l : Launch} {Y : gY} {d : Nat} {post : gQ} {pc : Nat} {lv : List (Option gA)} {st : List gA} {μ : gM} {k : Fin 4} {e : Int} (hd : decode Y.2.1 pc = .ok (.iload_n k, 1)) (hl : lv[(k : Nat)]? = some (some (vI e))) (kk : WA g l Y d post (pc + 1) lv (vI e :: st) μ) : WA g l Y d post (pc) lv (st) μ := by
  intro p en s m args below meth c H locs ls C L hP hS
  exact lv_iload_n C.1 C.2.1 hd rfl (L.2.2 _ _ hl) (kk p en s m args below meth c H locs ls C L hP hS)
theorem w_iload {g : gG} {l : Launch} {Y : gY} {d : Nat} {post : gQ} {pc : Nat} {lv : List (Option gA)} {st : List gA} {μ : gM} {k : Nat} {e : Int} (hd : decode Y.2.1 pc = .ok (.iload k, 2)) (hl : lv[k]? = some (some (vI e))) (kk : WA g l Y d post (pc + 2) lv (vI e :: st) μ) : WA g l Y d post (pc) lv (st) μ := by
  intro p en s m args below meth c H locs ls C L hP hS
  exact lv_iload C.1 C.2.1 hd (L.2.2 _ _ hl) (kk p en s m args below meth c H locs ls C L hP hS)
theorem w_lload_n {g : gG} {l : Launch} {Y : gY} {d : Nat} {post : gQ} {pc : Nat} {lv : List (Option gA)} {st : List gA} {μ : gM} {k : Fin 4} {e : Int} (hd : decode Y.2.1 pc = .ok (.lload_n k, 1)) (hl : lv[(k : Nat)]? = some (some (vL e))) (kk : WA g l Y d post (pc + 1) lv (vL e :: st) μ) : WA g l Y d post (pc) lv (st) μ := by
  intro p en s m args below meth c H locs ls C L hP hS
  exact lv_lload_n C.1 C.2.1 hd rfl (L.2.2 _ _ hl) (kk p en s m args below meth c H locs ls C L hP hS)
theorem w_lload {g : gG} {l : Launch} {Y : gY} {d : Nat} {post : gQ} {pc : Nat} {lv : List (Option gA)} {st : List gA} {μ : gM} {k : Nat} {e : Int} (hd : decode Y.2.1 pc = .ok (.lload k, 2)) (hl : lv[k]? = some (some (vL e))) (kk : WA g l Y d post (pc + 2) lv (vL e :: st) μ) : WA g l Y d post (pc) lv (st) μ := by
  intro p en s m args below meth c H locs ls C L hP hS
  exact lv_lload C.1 C.2.1 hd (L.2.2 _ _ hl) (kk p en s m args below meth c H locs ls C L hP hS)
theorem w_aload_n {g : gG} {l : Launch} {Y : gY} {d : Nat} {post : gQ} {pc : Nat} {lv : List (Option gA)} {st : List gA} {μ : gM} {k : Fin 4} {e : Nat} (hd : decode Y.2.1 pc = .ok (.aload_n k, 1)) (hl : lv[(k : Nat)]? = some (some (vR e))) (kk : WA g l Y d post (pc + 1) lv (vR e :: st) μ) : WA g l Y d post (pc) lv (st) μ := by
  intro p en s m args below meth c H locs ls C L hP hS
  exact lv_aload_n C.1 C.2.1 hd rfl (L.2.2 _ _ hl) (kk p en s m args below meth c H locs ls C L hP hS)
theorem w_aload {g : gG} {l : Launch} {Y : gY} {d : Nat} {post : gQ} {pc : Nat} {lv : List (Option gA)} {st : List gA} {μ : gM} {k : Nat} {e : Nat} (hd : decode Y.2.1 pc = .ok (.aload k, 2)) (hl : lv[k]? = some (some (vR e))) (kk : WA g l Y d post (pc + 2) lv (vR e :: st) μ) : WA g l Y d post (pc) lv (st) μ := by
  intro p en s m args below meth c H locs ls C L hP hS
  exact lv_aload C.1 C.2.1 hd (L.2.2 _ _ hl) (kk p en s m args below meth c H locs ls C L hP hS)
def ol (g : gG) : Nat → List (Option gA) → List (Nat × Value)
  | _, [] => []
  | b, none :: r => ol g (b + 1) r
  | b, some v :: r => (b, cv g v) :: ol g (b + 1) r
theorem ol_mem (g : gG) : ∀ (lv : List (Option gA)) (b : Nat) (q : Nat × Value), q ∈ ol g b lv ↔ ∃ k w, q.1 = b + k ∧ lv[k]? = some (some w) ∧ q.2 = cv g w
  | [], b, q => by simp [ol]
  | none :: r, b, q => by
    rw [ol, ol_mem g r (b + 1) q]
    constructor
    · rintro ⟨k, w, h1, h2, h3⟩
      exact ⟨k + 1, w, by omega, by simpa using h2, h3⟩
    · rintro ⟨k, w, h1, h2, h3⟩
      cases k with
      | zero => simp at h2
      | succ k => exact ⟨k, w, by omega, by simpa using h2, h3⟩
  | some v :: r, b, q => by
    rw [ol, List.mem_cons, ol_mem g r (b + 1) q]
    constructor
    · rintro (rfl | ⟨k, w, h1, h2, h3⟩)
      · exact ⟨0, v, rfl, rfl, rfl⟩
      · exact ⟨k + 1, w, by omega, by simpa using h2, h3⟩
    · rintro ⟨k, w, h1, h2, h3⟩
      cases k with
      | zero =>
        simp at h2
        subst h2
        exact Or.inl (Prod.ext h1 h3)
      | succ k => exact Or.inr ⟨k, w, by omega, by simpa using h2, h3⟩
theorem LV.has {g : gG} {ls : Array Slot} {n : Nat} {lv : List (Option gA)} (h : LV g ls n lv) : lv_has ls n (ol g 0 lv) := by
  refine ⟨h.1, h.2.1, fun q hq => ?_⟩
  obtain ⟨k, w, h1, h2, h3⟩ := (ol_mem g lv 0 q).mp hq
  rw [h1, h3, Nat.zero_add]
  exact h.2.2 k w h2
/-- no long begins just ahead of place i -/
def nl (lv : List (Option gA)) : Nat → Bool
  | 0 => true
  | j + 1 => match lv[j]? with
    | some (some (.inr (.inl _))) => false
    | _ => true
theorem nl_cat {g : gG} {lv : List (Option gA)} {i k : Nat} {w : gA} (h : nl lv i = true) (hk : k + 1 = i) (hw : lv[k]? = some (some w)) : (cv g w).category = 1 := by
  subst hk
  rcases w with e | e | c
  · rfl
  · simp [nl, hw] at h
  · rfl
theorem LV.set1 {g : gG} {ls : Array Slot} {n i : Nat} {lv : List (Option gA)} {v : gA} (hn : nl lv i = true) (h : lv_has ls n ((i, cv g v) :: (ol g 0 lv).filter (fun q => !(q.1 == i) && !(q.1 + 1 == i && q.2.category == 2)))) : LV g ls n (lv.set i (some v)) := by
  refine ⟨h.1, h.2.1, fun k w hk => ?_⟩
  by_cases hi : k = i
  · subst hi
    by_cases hl : k < lv.length
    · rw [List.getElem?_set_self hl] at hk
      cases hk
      exact h.2.2 (k, cv g v) List.mem_cons_self
    · rw [List.getElem?_eq_none (by rw [List.length_set]; omega)] at hk
      cases hk
  · rw [List.getElem?_set_ne (Ne.symm hi)] at hk
    refine h.2.2 (k, cv g w) (List.mem_cons_of_mem _ (List.mem_filter.mpr ⟨(ol_mem g lv 0 _).mpr ⟨k, w, by simp, hk, rfl⟩, ?_⟩))
    simp only [Bool.and_eq_true, Bool.not_eq_true', beq_eq_false_iff_ne, ne_eq, Bool.and_eq_false_iff]
    refine ⟨hi, ?_⟩
    by_cases h1 : k + 1 = i
    · right
      simp [nl_cat (g := g) hn h1 hk]
    · exact Or.inl h1
theorem LV.set2 {g : gG} {ls : Array Slot} {n i : Nat} {lv : List (Option gA)} {v : gA} (hn : nl lv i = true) (h : lv_has ls n ((i, cv g v) :: (ol g 0 lv).filter (fun q => !(q.1 == i) && (!(q.1 == i + 1) && !(q.1 + 1 == i && q.2.category == 2))))) : LV g ls n ((lv.set i (some v)).set (i + 1) none) := by
  refine ⟨h.1, h.2.1, fun k w hk => ?_⟩
  by_cases h1 : k = i + 1
  · subst h1
    by_cases hl : i + 1 < (lv.set i (some v)).length
    · rw [List.getElem?_set_self hl] at hk
      cases hk
    · rw [List.getElem?_eq_none (by rw [List.length_set]; omega)] at hk
      cases hk
  · rw [List.getElem?_set_ne (Ne.symm h1)] at hk
    by_cases hi : k = i
    · subst hi
      by_cases hl : k < lv.length
      · rw [List.getElem?_set_self hl] at hk
        cases hk
        exact h.2.2 (k, cv g v) List.mem_cons_self
      · rw [List.getElem?_eq_none (by rw [List.length_set]; omega)] at hk
        cases hk
    · rw [List.getElem?_set_ne (Ne.symm hi)] at hk
      refine h.2.2 (k, cv g w) (List.mem_cons_of_mem _ (List.mem_filter.mpr ⟨(ol_mem g lv 0 _).mpr ⟨k, w, by simp, hk, rfl⟩, ?_⟩))
      simp only [Bool.and_eq_true, Bool.not_eq_true', beq_eq_false_iff_ne, ne_eq, Bool.and_eq_false_iff]
      refine ⟨hi, h1, ?_⟩
      by_cases h2 : k + 1 = i
      · right
        simp [nl_cat (g := g) hn h2 hk]
      · exact Or.inl h2
theorem w_istore_n {g : gG} {l : Launch} {Y : gY} {d : Nat} {post : gQ} {pc : Nat} {lv : List (Option gA)} {st : List gA} {μ : gM} {k : Fin 4} {e : Int} (hd : decode Y.2.1 pc = .ok (.istore_n k, 1)) (hn : (k : Nat) < Y.2.2.1) (ho : nl lv k = true) (kk : WA g l Y d post (pc + 1) (lv.set (k : Nat) (some (vI e))) (st) μ) : WA g l Y d post (pc) lv (vI e :: st) μ := by
  intro p en s m args below meth c H locs ls C L hP hS
  exact lv_istore_n C.1 C.2.1 hd rfl L.has hn rfl (fun ls2 h2 => kk p en s m args below meth c H locs ls2 C (LV.set1 ho h2) hP hS)
theorem w_istore {g : gG} {l : Launch} {Y : gY} {d : Nat} {post : gQ} {pc : Nat} {lv : List (Option gA)} {st : List gA} {μ : gM} {k : Nat} {e : Int} (hd : decode Y.2.1 pc = .ok (.istore k, 2)) (hn : k < Y.2.2.1) (ho : nl lv k = true) (kk : WA g l Y d post (pc + 2) (lv.set k (some (vI e))) (st) μ) : WA g l Y d post (pc) lv (vI e :: st) μ := by
  intro p en s m args below meth c H locs ls C L hP hS
  exact lv_istore C.1 C.2.1 hd L.has hn rfl (fun ls2 h2 => kk p en s m args below meth c H locs ls2 C (LV.set1 ho h2) hP hS)
theorem w_astore_n {g : gG} {l : Launch} {Y : gY} {d : Nat} {post : gQ} {pc : Nat} {lv : List (Option gA)} {st : List gA} {μ : gM} {k : Fin 4} {e : Nat} (hd : decode Y.2.1 pc = .ok (.astore_n k, 1)) (hn : (k : Nat) < Y.2.2.1) (ho : nl lv k = true) (kk : WA g l Y d post (pc + 1) (lv.set (k : Nat) (some (vR e))) (st) μ) : WA g l Y d post (pc) lv (vR e :: st) μ := by
  intro p en s m args below meth c H locs ls C L hP hS
  exact lv_astore_n C.1 C.2.1 hd rfl L.has hn rfl (fun ls2 h2 => kk p en s m args below meth c H locs ls2 C (LV.set1 ho h2) hP hS)
theorem w_astore {g : gG} {l : Launch} {Y : gY} {d : Nat} {post : gQ} {pc : Nat} {lv : List (Option gA)} {st : List gA} {μ : gM} {k : Nat} {e : Nat} (hd : decode Y.2.1 pc = .ok (.astore k, 2)) (hn : k < Y.2.2.1) (ho : nl lv k = true) (kk : WA g l Y d post (pc + 2) (lv.set k (some (vR e))) (st) μ) : WA g l Y d post (pc) lv (vR e :: st) μ := by
  intro p en s m args below meth c H locs ls C L hP hS
  exact lv_astore C.1 C.2.1 hd L.has hn rfl (fun ls2 h2 => kk p en s m args below meth c H locs ls2 C (LV.set1 ho h2) hP hS)
theorem w_lstore_n {g : gG} {l : Launch} {Y : gY} {d : Nat} {post : gQ} {pc : Nat} {lv : List (Option gA)} {st : List gA} {μ : gM} {k : Fin 4} {e : Int} (hd : decode Y.2.1 pc = .ok (.lstore_n k, 1)) (hn : (k : Nat) + 1 < Y.2.2.1) (ho : nl lv k = true) (kk : WA g l Y d post (pc + 1) ((lv.set (k : Nat) (some (vL e))).set ((k : Nat) + 1) none) (st) μ) : WA g l Y d post (pc) lv (vL e :: st) μ := by
  intro p en s m args below meth c H locs ls C L hP hS
  exact lv_lstore_n C.1 C.2.1 hd rfl L.has hn rfl (fun ls2 h2 => kk p en s m args below meth c H locs ls2 C (LV.set2 ho h2) hP hS)
theorem w_lstore {g : gG} {l : Launch} {Y : gY} {d : Nat} {post : gQ} {pc : Nat} {lv : List (Option gA)} {st : List gA} {μ : gM} {k : Nat} {e : Int} (hd : decode Y.2.1 pc = .ok (.lstore k, 2)) (hn : k + 1 < Y.2.2.1) (ho : nl lv k = true) (kk : WA g l Y d post (pc + 2) ((lv.set k (some (vL e))).set (k + 1) none) (st) μ) : WA g l Y d post (pc) lv (vL e :: st) μ := by
  intro p en s m args below meth c H locs ls C L hP hS
  exact lv_lstore C.1 C.2.1 hd L.has hn rfl (fun ls2 h2 => kk p en s m args below meth c H locs ls2 C (LV.set2 ho h2) hP hS)
theorem w_iinc {g : gG} {l : Launch} {Y : gY} {d : Nat} {post : gQ} {pc : Nat} {lv : List (Option gA)} {st : List gA} {μ : gM} {k : Nat} {n e : Int} (hd : decode Y.2.1 pc = .ok (.iinc k n, 3)) (hl : lv[k]? = some (some (vI e))) (hn : k < Y.2.2.1) (ho : nl lv k = true) (kk : WA g l Y d post (pc + 3) (lv.set k (some (vI (e + n)))) (st) μ) : WA g l Y d post (pc) lv (st) μ := by
  intro p en s m args below meth c H locs ls C L hP hS
  obtain ⟨j, hj⟩ := List.getElem?_of_mem ((ol_mem g lv 0 (k, cv g (vI e))).mpr ⟨k, vI e, by simp, hl, rfl⟩)
  refine lv_iinc (x := iI e) (v := iI (e + n)) C.1 C.2.1 hd L.has (k := j) hj (iI_add e n) hn rfl (fun ls2 h2 => ?_)
  exact kk p en s m args below meth c H locs ls2 C (LV.set1 (v := vI (e + n)) ho h2) hP hS
theorem w_drop {g : gG} {l : Launch} {Y : gY} {d : Nat} {post : gQ} {pc : Nat} {lv : List (Option gA)} {st : List gA} {μ : gM} (k : Nat) (kk : WA g l Y d post (pc) (lv.set k none) (st) μ) : WA g l Y d post (pc) lv (st) μ := by
  intro p en s m args below meth c H locs ls C L hP hS
  refine kk p en s m args below meth c H locs ls C ⟨L.1, L.2.1, fun j v hj => ?_⟩ hP hS
  by_cases h : j = k
  · subst h
    by_cases hl : j < lv.length
    · rw [List.getElem?_set_self hl] at hj
      cases hj
    · rw [List.getElem?_eq_none (by rw [List.length_set]; omega)] at hj
      cases hj
  · rw [List.getElem?_set_ne (Ne.symm h)] at hj
    exact L.2.2 j v hj
theorem w_iadd {g : gG} {l : Launch} {Y : gY} {d : Nat} {post : gQ} {pc : Nat} {lv : List (Option gA)} {st : List gA} {μ : gM} {a b : Int} (hd : decode Y.2.1 pc = .ok (.iadd, 1)) (kk : WA g l Y d post (pc + 1) lv (vI (a + b) :: st) μ) : WA g l Y d post (pc) lv (vI b :: vI a :: st) μ := by
  intro p en s m args below meth c H locs ls C L hP hS
  refine lv_iadd (x := iI a) (y := iI b) C.1 C.2.1 hd ?_
  rw [iI_add]
  exact kk p en s m args below meth c H locs ls C L hP hS
theorem w_ladd {g : gG} {l : Launch} {Y : gY} {d : Nat} {post : gQ} {pc : Nat} {lv : List (Option gA)} {st : List gA} {μ : gM} {a b : Int} (hd : decode Y.2.1 pc = .ok (.ladd, 1)) (kk : WA g l Y d post (pc + 1) lv (vL (a + b) :: st) μ) : WA g l Y d post (pc) lv (vL b :: vL a :: st) μ := by
  intro p en s m args below meth c H locs ls C L hP hS
  refine lv_ladd (x := lI a) (y := lI b) C.1 C.2.1 hd ?_
  rw [lI_add]
  exact kk p en s m args below meth c H locs ls C L hP hS
theorem w_isub {g : gG} {l : Launch} {Y : gY} {d : Nat} {post : gQ} {pc : Nat} {lv : List (Option gA)} {st : List gA} {μ : gM} {a b : Int} (hd : decode Y.2.1 pc = .ok (.isub, 1)) (kk : WA g l Y d post (pc + 1) lv (vI (a - b) :: st) μ) : WA g l Y d post (pc) lv (vI b :: vI a :: st) μ := by
  intro p en s m args below meth c H locs ls C L hP hS
  refine lv_isub (x := iI a) (y := iI b) C.1 C.2.1 hd ?_
  rw [iI_sub]
  exact kk p en s m args below meth c H locs ls C L hP hS
theorem w_lsub {g : gG} {l : Launch} {Y : gY} {d : Nat} {post : gQ} {pc : Nat} {lv : List (Option gA)} {st : List gA} {μ : gM} {a b : Int} (hd : decode Y.2.1 pc = .ok (.lsub, 1)) (kk : WA g l Y d post (pc + 1) lv (vL (a - b) :: st) μ) : WA g l Y d post (pc) lv (vL b :: vL a :: st) μ := by
  intro p en s m args below meth c H locs ls C L hP hS
  refine lv_lsub (x := lI a) (y := lI b) C.1 C.2.1 hd ?_
  rw [lI_sub]
  exact kk p en s m args below meth c H locs ls C L hP hS
theorem w_imul {g : gG} {l : Launch} {Y : gY} {d : Nat} {post : gQ} {pc : Nat} {lv : List (Option gA)} {st : List gA} {μ : gM} {a b : Int} (hd : decode Y.2.1 pc = .ok (.imul, 1)) (kk : WA g l Y d post (pc + 1) lv (vI (a * b) :: st) μ) : WA g l Y d post (pc) lv (vI b :: vI a :: st) μ := by
  intro p en s m args below meth c H locs ls C L hP hS
  refine lv_imul (x := iI a) (y := iI b) C.1 C.2.1 hd ?_
  rw [iI_mul]
  exact kk p en s m args below meth c H locs ls C L hP hS
theorem w_lmul {g : gG} {l : Launch} {Y : gY} {d : Nat} {post : gQ} {pc : Nat} {lv : List (Option gA)} {st : List gA} {μ : gM} {a b : Int} (hd : decode Y.2.1 pc = .ok (.lmul, 1)) (kk : WA g l Y d post (pc + 1) lv (vL (a * b) :: st) μ) : WA g l Y d post (pc) lv (vL b :: vL a :: st) μ := by
  intro p en s m args below meth c H locs ls C L hP hS
  refine lv_lmul (x := lI a) (y := lI b) C.1 C.2.1 hd ?_
  rw [lI_mul]
  exact kk p en s m args below meth c H locs ls C L hP hS
theorem w_ineg {g : gG} {l : Launch} {Y : gY} {d : Nat} {post : gQ} {pc : Nat} {lv : List (Option gA)} {st : List gA} {μ : gM} {a : Int} (hd : decode Y.2.1 pc = .ok (.ineg, 1)) (kk : WA g l Y d post (pc + 1) lv (vI (-a) :: st) μ) : WA g l Y d post (pc) lv (vI a :: st) μ := by
  intro p en s m args below meth c H locs ls C L hP hS
  refine lv_ineg (x := iI a) C.1 C.2.1 hd ?_
  rw [iI_neg]
  exact kk p en s m args below meth c H locs ls C L hP hS
theorem w_idiv {g : gG} {l : Launch} {Y : gY} {d : Nat} {post : gQ} {pc : Nat} {lv : List (Option gA)} {st : List gA} {μ : gM} {a b : Int} (ha : 0 ≤ a ∧ a < 2147483648) (hb : 0 < b ∧ b < 2147483648) (hd : decode Y.2.1 pc = .ok (.idiv, 1)) (kk : WA g l Y d post (pc + 1) lv (vI (a / b) :: st) μ) : WA g l Y d post (pc) lv (vI b :: vI a :: st) μ := by
  intro p en s m args below meth c H locs ls C L hP hS
  refine lv_idiv (x := iI a) (y := iI b) C.1 C.2.1 hd (fun h => ?_) ?_
  · have h0 : iI b = iI 0 := h
    rw [iI_eq (by omega) (by omega)] at h0
    omega
  · rw [iI_div ha hb]
    exact kk p en s m args below meth c H locs ls C L hP hS
theorem w_irem {g : gG} {l : Launch} {Y : gY} {d : Nat} {post : gQ} {pc : Nat} {lv : List (Option gA)} {st : List gA} {μ : gM} {a b : Int} (ha : 0 ≤ a ∧ a < 2147483648) (hb : 0 < b ∧ b < 2147483648) (hd : decode Y.2.1 pc = .ok (.irem, 1)) (kk : WA g l Y d post (pc + 1) lv (vI (a % b) :: st) μ) : WA g l Y d post (pc) lv (vI b :: vI a :: st) μ := by
  intro p en s m args below meth c H locs ls C L hP hS
  refine lv_irem (x := iI a) (y := iI b) C.1 C.2.1 hd (fun h => ?_) ?_
  · have h0 : iI b = iI 0 := h
    rw [iI_eq (by omega) (by omega)] at h0
    omega
  · rw [iI_rem ha hb]
    exact kk p en s m args below meth c H locs ls C L hP hS
theorem w_lneg {g : gG} {l : Launch} {Y : gY} {d : Nat} {post : gQ} {pc : Nat} {lv : List (Option gA)} {st : List gA} {μ : gM} {a : Int} (hd : decode Y.2.1 pc = .ok (.lneg, 1)) (kk : WA g l Y d post (pc + 1) lv (vL (-a) :: st) μ) : WA g l Y d post (pc) lv (vL a :: st) μ := by
  intro p en s m args below meth c H locs ls C L hP hS
  refine lv_lneg (x := lI a) C.1 C.2.1 hd ?_
  rw [lI_neg]
  exact kk p en s m args below meth c H locs ls C L hP hS
theorem w_ldiv {g : gG} {l : Launch} {Y : gY} {d : Nat} {post : gQ} {pc : Nat} {lv : List (Option gA)} {st : List gA} {μ : gM} {a b : Int} (ha : 0 ≤ a ∧ a < 9223372036854775808) (hb : 0 < b ∧ b < 9223372036854775808) (hd : decode Y.2.1 pc = .ok (.ldiv, 1)) (kk : WA g l Y d post (pc + 1) lv (vL (a / b) :: st) μ) : WA g l Y d post (pc) lv (vL b :: vL a :: st) μ := by
  intro p en s m args below meth c H locs ls C L hP hS
  refine lv_ldiv (x := lI a) (y := lI b) C.1 C.2.1 hd (fun h => ?_) ?_
  · have h0 : lI b = lI 0 := h
    rw [lI_eq (by omega) (by omega)] at h0
    omega
  · rw [lI_div ha hb]
    exact kk p en s m args below meth c H locs ls C L hP hS
theorem w_lrem {g : gG} {l : Launch} {Y : gY} {d : Nat} {post : gQ} {pc : Nat} {lv : List (Option gA)} {st : List gA} {μ : gM} {a b : Int} (ha : 0 ≤ a ∧ a < 9223372036854775808) (hb : 0 < b ∧ b < 9223372036854775808) (hd : decode Y.2.1 pc = .ok (.lrem, 1)) (kk : WA g l Y d post (pc + 1) lv (vL (a % b) :: st) μ) : WA g l Y d post (pc) lv (vL b :: vL a :: st) μ := by
  intro p en s m args below meth c H locs ls C L hP hS
  refine lv_lrem (x := lI a) (y := lI b) C.1 C.2.1 hd (fun h => ?_) ?_
  · have h0 : lI b = lI 0 := h
    rw [lI_eq (by omega) (by omega)] at h0
    omega
  · rw [lI_rem ha hb]
    exact kk p en s m args below meth c H locs ls C L hP hS
theorem w_i2l {g : gG} {l : Launch} {Y : gY} {d : Nat} {post : gQ} {pc : Nat} {lv : List (Option gA)} {st : List gA} {μ : gM} {a : Int} (ha : -2147483648 ≤ a ∧ a < 2147483648) (hd : decode Y.2.1 pc = .ok (.i2l, 1)) (kk : WA g l Y d post (pc + 1) lv (vL a :: st) μ) : WA g l Y d post (pc) lv (vI a :: st) μ := by
  intro p en s m args below meth c H locs ls C L hP hS
  exact lv_i2l C.1 C.2.1 hd (iI_l ha) (kk p en s m args below meth c H locs ls C L hP hS)
theorem w_l2i {g : gG} {l : Launch} {Y : gY} {d : Nat} {post : gQ} {pc : Nat} {lv : List (Option gA)} {st : List gA} {μ : gM} {a : Int} (hd : decode Y.2.1 pc = .ok (.l2i, 1)) (kk : WA g l Y d post (pc + 1) lv (vI a :: st) μ) : WA g l Y d post (pc) lv (vL a :: st) μ := by
  intro p en s m args below meth c H locs ls C L hP hS
  exact lv_l2i C.1 C.2.1 hd (lI_i a) (kk p en s m args below meth c H locs ls C L hP hS)
def bOr (a b : Int) : Int := (iI a ||| iI b).toInt
def bAnd (a b : Int) : Int := (iI a &&& iI b).toInt
def bShl (a b : Int) : Int := (iI a <<< (iI b &&& 31)).toInt
def lOr (a b : Int) : Int := (lI a ||| lI b).toInt
def lAnd (a b : Int) : Int := (lI a &&& lI b).toInt
theorem w_ior {g : gG} {l : Launch} {Y : gY} {d : Nat} {post : gQ} {pc : Nat} {lv : List (Option gA)} {st : List gA} {μ : gM} {a b : Int} (hd : decode Y.2.1 pc = .ok (.ior, 1)) (kk : WA g l Y d post (pc + 1) lv (vI (bOr a b) :: st) μ) : WA g l Y d post (pc) lv (vI b :: vI a :: st) μ := by
  intro p en s m args below meth c H locs ls C L hP hS
  refine lv_ior (x := iI a) (y := iI b) C.1 C.2.1 hd ?_
  have h := kk p en s m args below meth c H locs ls C L hP hS
  have e2 : cv g (vI (bOr a b)) = .int (iI a ||| iI b) := congrArg Value.int (iI_of _)
  rw [List.map_cons, e2] at h
  exact h
theorem w_iand {g : gG} {l : Launch} {Y : gY} {d : Nat} {post : gQ} {pc : Nat} {lv : List (Option gA)} {st : List gA} {μ : gM} {a b : Int} (hd : decode Y.2.1 pc = .ok (.iand, 1)) (kk : WA g l Y d post (pc + 1) lv (vI (bAnd a b) :: st) μ) : WA g l Y d post (pc) lv (vI b :: vI a :: st) μ := by
  intro p en s m args below meth c H locs ls C L hP hS
  refine lv_iand (x := iI a) (y := iI b) C.1 C.2.1 hd ?_
  have h := kk p en s m args below meth c H locs ls C L hP hS
  have e2 : cv g (vI (bAnd a b)) = .int (iI a &&& iI b) := congrArg Value.int (iI_of _)
  rw [List.map_cons, e2] at h
  exact h
theorem w_lor {g : gG} {l : Launch} {Y : gY} {d : Nat} {post : gQ} {pc : Nat} {lv : List (Option gA)} {st : List gA} {μ : gM} {a b : Int} (hd : decode Y.2.1 pc = .ok (.lor, 1)) (kk : WA g l Y d post (pc + 1) lv (vL (lOr a b) :: st) μ) : WA g l Y d post (pc) lv (vL b :: vL a :: st) μ := by
  intro p en s m args below meth c H locs ls C L hP hS
  refine lv_lor (x := lI a) (y := lI b) C.1 C.2.1 hd ?_
  have h := kk p en s m args below meth c H locs ls C L hP hS
  have e2 : cv g (vL (lOr a b)) = .long (lI a ||| lI b) := congrArg Value.long (lI_of _)
  rw [List.map_cons, e2] at h
  exact h
theorem w_land {g : gG} {l : Launch} {Y : gY} {d : Nat} {post : gQ} {pc : Nat} {lv : List (Option gA)} {st : List gA} {μ : gM} {a b : Int} (hd : decode Y.2.1 pc = .ok (.land, 1)) (kk : WA g l Y d post (pc + 1) lv (vL (lAnd a b) :: st) μ) : WA g l Y d post (pc) lv (vL b :: vL a :: st) μ := by
  intro p en s m args below meth c H locs ls C L hP hS
  refine lv_land (x := lI a) (y := lI b) C.1 C.2.1 hd ?_
  have h := kk p en s m args below meth c H locs ls C L hP hS
  have e2 : cv g (vL (lAnd a b)) = .long (lI a &&& lI b) := congrArg Value.long (lI_of _)
  rw [List.map_cons, e2] at h
  exact h
theorem w_dup_i {g : gG} {l : Launch} {Y : gY} {d : Nat} {post : gQ} {pc : Nat} {lv : List (Option gA)} {st : List gA} {μ : gM} {e : Int} (hd : decode Y.2.1 pc = .ok (.dup, 1)) (kk : WA g l Y d post (pc + 1) lv (vI e :: vI e :: st) μ) : WA g l Y d post (pc) lv (vI e :: st) μ := by
  intro p en s m args below meth c H locs ls C L hP hS
  exact lv_dup C.1 C.2.1 hd rfl (kk p en s m args below meth c H locs ls C L hP hS)
theorem w_pop_i {g : gG} {l : Launch} {Y : gY} {d : Nat} {post : gQ} {pc : Nat} {lv : List (Option gA)} {st : List gA} {μ : gM} {e : Int} (hd : decode Y.2.1 pc = .ok (.pop, 1)) (kk : WA g l Y d post (pc + 1) lv (st) μ) : WA g l Y d post (pc) lv (vI e :: st) μ := by
  intro p en s m args below meth c H locs ls C L hP hS
  exact lv_pop C.1 C.2.1 hd rfl (kk p en s m args below meth c H locs ls C L hP hS)
theorem w_dup_a {g : gG} {l : Launch} {Y : gY} {d : Nat} {post : gQ} {pc : Nat} {lv : List (Option gA)} {st : List gA} {μ : gM} {e : Nat} (hd : decode Y.2.1 pc = .ok (.dup, 1)) (kk : WA g l Y d post (pc + 1) lv (vR e :: vR e :: st) μ) : WA g l Y d post (pc) lv (vR e :: st) μ := by
  intro p en s m args below meth c H locs ls C L hP hS
  exact lv_dup C.1 C.2.1 hd rfl (kk p en s m args below meth c H locs ls C L hP hS)
theorem w_pop_a {g : gG} {l : Launch} {Y : gY} {d : Nat} {post : gQ} {pc : Nat} {lv : List (Option gA)} {st : List gA} {μ : gM} {e : Nat} (hd : decode Y.2.1 pc = .ok (.pop, 1)) (kk : WA g l Y d post (pc + 1) lv (st) μ) : WA g l Y d post (pc) lv (vR e :: st) μ := by
  intro p en s m args below meth c H locs ls C L hP hS
  exact lv_pop C.1 C.2.1 hd rfl (kk p en s m args below meth c H locs ls C L hP hS)
theorem w_dup2 {g : gG} {l : Launch} {Y : gY} {d : Nat} {post : gQ} {pc : Nat} {lv : List (Option gA)} {st : List gA} {μ : gM} {i : Int} {a : Nat} (hd : decode Y.2.1 pc = .ok (.dup2, 1)) (kk : WA g l Y d post (pc + 1) lv (vI i :: vR a :: vI i :: vR a :: st) μ) : WA g l Y d post (pc) lv (vI i :: vR a :: st) μ := by
  intro p en s m args below meth c H locs ls C L hP hS
  exact lv_dup2_11 C.1 C.2.1 hd rfl rfl (kk p en s m args below meth c H locs ls C L hP hS)
theorem w_dup_x1 {g : gG} {l : Launch} {Y : gY} {d : Nat} {post : gQ} {pc : Nat} {lv : List (Option gA)} {st : List gA} {μ : gM} {i : Int} {a : Nat} (hd : decode Y.2.1 pc = .ok (.dup_x1, 1)) (kk : WA g l Y d post (pc + 1) lv (vI i :: vR a :: vI i :: st) μ) : WA g l Y d post (pc) lv (vI i :: vR a :: st) μ := by
  intro p en s m args below meth c H locs ls C L hP hS
  exact lv_dup_x1 C.1 C.2.1 hd rfl rfl (kk p en s m args below meth c H locs ls C L hP hS)
theorem w_icmp_eq {g : gG} {l : Launch} {Y : gY} {d : Nat} {post : gQ} {pc : Nat} {lv : List (Option gA)} {st : List gA} {μ : gM} {a b : Int} {off : Int} {tgt : Nat} (ha : -2147483648 ≤ a ∧ a < 2147483648) (hb : -2147483648 ≤ b ∧ b < 2147483648) (hd : decode Y.2.1 pc = .ok (.if_icmp .eq off, 3)) (ht : (pc : Int) + off = (tgt : Int)) (kt : a = b → WA g l Y d post (tgt) lv (st) μ) (kf : ¬ (a = b) → WA g l Y d post (pc + 3) lv (st) μ) : WA g l Y d post (pc) lv (vI b :: vI a :: st) μ := by
  intro p en s m args below meth c H locs ls C L hP hS
  have hi := iI_eq ha hb
  exact lv_icmp_eq (x := iI a) (y := iI b) C.1 C.2.1 hd ht (fun h => kt (hi.mp h) p en s m args below meth c H locs ls C L hP hS) (fun h => kf (fun q => h (hi.mpr q)) p en s m args below meth c H locs ls C L hP hS)
theorem w_if_eq {g : gG} {l : Launch} {Y : gY} {d : Nat} {post : gQ} {pc : Nat} {lv : List (Option gA)} {st : List gA} {μ : gM} {a : Int} {off : Int} {tgt : Nat} (ha : -2147483648 ≤ a ∧ a < 2147483648) (hd : decode Y.2.1 pc = .ok (.ifCond .eq off, 3)) (ht : (pc : Int) + off = (tgt : Int)) (kt : a = 0 → WA g l Y d post (tgt) lv (st) μ) (kf : ¬ (a = 0) → WA g l Y d post (pc + 3) lv (st) μ) : WA g l Y d post (pc) lv (vI a :: st) μ := by
  intro p en s m args below meth c H locs ls C L hP hS
  have hi := iI_eq ha (show -2147483648 ≤ (0 : Int) ∧ (0 : Int) < 2147483648 by decide)
  exact lv_if_eq (x := iI a) C.1 C.2.1 hd ht (fun h => kt (hi.mp h) p en s m args below meth c H locs ls C L hP hS) (fun h => kf (fun q => h (hi.mpr q)) p en s m args below meth c H locs ls C L hP hS)
theorem w_icmp_ne {g : gG} {l : Launch} {Y : gY} {d : Nat} {post : gQ} {pc : Nat} {lv : List (Option gA)} {st : List gA} {μ : gM} {a b : Int} {off : Int} {tgt : Nat} (ha : -2147483648 ≤ a ∧ a < 2147483648) (hb : -2147483648 ≤ b ∧ b < 2147483648) (hd : decode Y.2.1 pc = .ok (.if_icmp .ne off, 3)) (ht : (pc : Int) + off = (tgt : Int)) (kt : a ≠ b → WA g l Y d post (tgt) lv (st) μ) (kf : a = b → WA g l Y d post (pc + 3) lv (st) μ) : WA g l Y d post (pc) lv (vI b :: vI a :: st) μ := by
  intro p en s m args below meth c H locs ls C L hP hS
  have hi := not_congr (iI_eq ha hb)
  exact lv_icmp_ne (x := iI a) (y := iI b) C.1 C.2.1 hd ht (fun h => kt (hi.mp h) p en s m args below meth c H locs ls C L hP hS) (fun h => kf ((iI_eq ha hb).mp h) p en s m args below meth c H locs ls C L hP hS)
theorem w_if_ne {g : gG} {l : Launch} {Y : gY} {d : Nat} {post : gQ} {pc : Nat} {lv : List (Option gA)} {st : List gA} {μ : gM} {a : Int} {off : Int} {tgt : Nat} (ha : -2147483648 ≤ a ∧ a < 2147483648) (hd : decode Y.2.1 pc = .ok (.ifCond .ne off, 3)) (ht : (pc : Int) + off = (tgt : Int)) (kt : a ≠ 0 → WA g l Y d post (tgt) lv (st) μ) (kf : a = 0 → WA g l Y d post (pc + 3) lv (st) μ) : WA g l Y d post (pc) lv (vI a :: st) μ := by
  intro p en s m args below meth c H locs ls C L hP hS
  have hi := not_congr (iI_eq ha (show -2147483648 ≤ (0 : Int) ∧ (0 : Int) < 2147483648 by decide))
  exact lv_if_ne (x := iI a) C.1 C.2.1 hd ht (fun h => kt (hi.mp h) p en s m args below meth c H locs ls C L hP hS) (fun h => kf ((iI_eq ha (show -2147483648 ≤ (0 : Int) ∧ (0 : Int) < 2147483648 by decide)).mp h) p en s m args below meth c H locs ls C L hP hS)
theorem w_icmp_lt {g : gG} {l : Launch} {Y : gY} {d : Nat} {post : gQ} {pc : Nat} {lv : List (Option gA)} {st : List gA} {μ : gM} {a b : Int} {off : Int} {tgt : Nat} (ha : -2147483648 ≤ a ∧ a < 2147483648) (hb : -2147483648 ≤ b ∧ b < 2147483648) (hd : decode Y.2.1 pc = .ok (.if_icmp .lt off, 3)) (ht : (pc : Int) + off = (tgt : Int)) (kt : a < b → WA g l Y d post (tgt) lv (st) μ) (kf : ¬ (a < b) → WA g l Y d post (pc + 3) lv (st) μ) : WA g l Y d post (pc) lv (vI b :: vI a :: st) μ := by
  intro p en s m args below meth c H locs ls C L hP hS
  have hi := iI_lt ha hb
  exact lv_icmp_lt (x := iI a) (y := iI b) C.1 C.2.1 hd ht (fun h => kt (hi.mp h) p en s m args below meth c H locs ls C L hP hS) (fun h => kf (fun q => h (hi.mpr q)) p en s m args below meth c H locs ls C L hP hS)
theorem w_if_lt {g : gG} {l : Launch} {Y : gY} {d : Nat} {post : gQ} {pc : Nat} {lv : List (Option gA)} {st : List gA} {μ : gM} {a : Int} {off : Int} {tgt : Nat} (ha : -2147483648 ≤ a ∧ a < 2147483648) (hd : decode Y.2.1 pc = .ok (.ifCond .lt off, 3)) (ht : (pc : Int) + off = (tgt : Int)) (kt : a < 0 → WA g l Y d post (tgt) lv (st) μ) (kf : ¬ (a < 0) → WA g l Y d post (pc + 3) lv (st) μ) : WA g l Y d post (pc) lv (vI a :: st) μ := by
  intro p en s m args below meth c H locs ls C L hP hS
  have hi := iI_lt ha (show -2147483648 ≤ (0 : Int) ∧ (0 : Int) < 2147483648 by decide)
  exact lv_if_lt (x := iI a) C.1 C.2.1 hd ht (fun h => kt (hi.mp h) p en s m args below meth c H locs ls C L hP hS) (fun h => kf (fun q => h (hi.mpr q)) p en s m args below meth c H locs ls C L hP hS)
theorem w_icmp_ge {g : gG} {l : Launch} {Y : gY} {d : Nat} {post : gQ} {pc : Nat} {lv : List (Option gA)} {st : List gA} {μ : gM} {a b : Int} {off : Int} {tgt : Nat} (ha : -2147483648 ≤ a ∧ a < 2147483648) (hb : -2147483648 ≤ b ∧ b < 2147483648) (hd : decode Y.2.1 pc = .ok (.if_icmp .ge off, 3)) (ht : (pc : Int) + off = (tgt : Int)) (kt : b ≤ a → WA g l Y d post (tgt) lv (st) μ) (kf : ¬ (b ≤ a) → WA g l Y d post (pc + 3) lv (st) μ) : WA g l Y d post (pc) lv (vI b :: vI a :: st) μ := by
  intro p en s m args below meth c H locs ls C L hP hS
  have hi := iI_le hb ha
  exact lv_icmp_ge (x := iI a) (y := iI b) C.1 C.2.1 hd ht (fun h => kt (hi.mp h) p en s m args below meth c H locs ls C L hP hS) (fun h => kf (fun q => h (hi.mpr q)) p en s m args below meth c H locs ls C L hP hS)
theorem w_if_ge {g : gG} {l : Launch} {Y : gY} {d : Nat} {post : gQ} {pc : Nat} {lv : List (Option gA)} {st : List gA} {μ : gM} {a : Int} {off : Int} {tgt : Nat} (ha : -2147483648 ≤ a ∧ a < 2147483648) (hd : decode Y.2.1 pc = .ok (.ifCond .ge off, 3)) (ht : (pc : Int) + off = (tgt : Int)) (kt : 0 ≤ a → WA g l Y d post (tgt) lv (st) μ) (kf : ¬ (0 ≤ a) → WA g l Y d post (pc + 3) lv (st) μ) : WA g l Y d post (pc) lv (vI a :: st) μ := by
  intro p en s m args below meth c H locs ls C L hP hS
  have hi := iI_le (show -2147483648 ≤ (0 : Int) ∧ (0 : Int) < 2147483648 by decide) ha
  exact lv_if_ge (x := iI a) C.1 C.2.1 hd ht (fun h => kt (hi.mp h) p en s m args below meth c H locs ls C L hP hS) (fun h => kf (fun q => h (hi.mpr q)) p en s m args below meth c H locs ls C L hP hS)
theorem w_icmp_gt {g : gG} {l : Launch} {Y : gY} {d : Nat} {post : gQ} {pc : Nat} {lv : List (Option gA)} {st : List gA} {μ : gM} {a b : Int} {off : Int} {tgt : Nat} (ha : -2147483648 ≤ a ∧ a < 2147483648) (hb : -2147483648 ≤ b ∧ b < 2147483648) (hd : decode Y.2.1 pc = .ok (.if_icmp .gt off, 3)) (ht : (pc : Int) + off = (tgt : Int)) (kt : b < a → WA g l Y d post (tgt) lv (st) μ) (kf : ¬ (b < a) → WA g l Y d post (pc + 3) lv (st) μ) : WA g l Y d post (pc) lv (vI b :: vI a :: st) μ := by
  intro p en s m args below meth c H locs ls C L hP hS
  have hi := iI_lt hb ha
  exact lv_icmp_gt (x := iI a) (y := iI b) C.1 C.2.1 hd ht (fun h => kt (hi.mp h) p en s m args below meth c H locs ls C L hP hS) (fun h => kf (fun q => h (hi.mpr q)) p en s m args below meth c H locs ls C L hP hS)
theorem w_if_gt {g : gG} {l : Launch} {Y : gY} {d : Nat} {post : gQ} {pc : Nat} {lv : List (Option gA)} {st : List gA} {μ : gM} {a : Int} {off : Int} {tgt : Nat} (ha : -2147483648 ≤ a ∧ a < 2147483648) (hd : decode Y.2.1 pc = .ok (.ifCond .gt off, 3)) (ht : (pc : Int) + off = (tgt : Int)) (kt : 0 < a → WA g l Y d post (tgt) lv (st) μ) (kf : ¬ (0 < a) → WA g l Y d post (pc + 3) lv (st) μ) : WA g l Y d post (pc) lv (vI a :: st) μ := by
  intro p en s m args below meth c H locs ls C L hP hS
  have hi := iI_lt (show -2147483648 ≤ (0 : Int) ∧ (0 : Int) < 2147483648 by decide) ha
  exact lv_if_gt (x := iI a) C.1 C.2.1 hd ht (fun h => kt (hi.mp h) p en s m args below meth c H locs ls C L hP hS) (fun h => kf (fun q => h (hi.mpr q)) p en s m args below meth c H locs ls C L hP hS)
theorem w_icmp_le {g : gG} {l : Launch} {Y : gY} {d : Nat} {post : gQ} {pc : Nat} {lv : List (Option gA)} {st : List gA} {μ : gM} {a b : Int} {off : Int} {tgt : Nat} (ha : -2147483648 ≤ a ∧ a < 2147483648) (hb : -2147483648 ≤ b ∧ b < 2147483648) (hd : decode Y.2.1 pc = .ok (.if_icmp .le off, 3)) (ht : (pc : Int) + off = (tgt : Int)) (kt : a ≤ b → WA g l Y d post (tgt) lv (st) μ) (kf : ¬ (a ≤ b) → WA g l Y d post (pc + 3) lv (st) μ) : WA g l Y d post (pc) lv (vI b :: vI a :: st) μ := by
  intro p en s m args below meth c H locs ls C L hP hS
  have hi := iI_le ha hb
  exact lv_icmp_le (x := iI a) (y := iI b) C.1 C.2.1 hd ht (fun h => kt (hi.mp h) p en s m args below meth c H locs ls C L hP hS) (fun h => kf (fun q => h (hi.mpr q)) p en s m args below meth c H locs ls C L hP hS)
theorem w_if_le {g : gG} {l : Launch} {Y : gY} {d : Nat} {post : gQ} {pc : Nat} {lv : List (Option gA)} {st : List gA} {μ : gM} {a : Int} {off : Int} {tgt : Nat} (ha : -2147483648 ≤ a ∧ a < 2147483648) (hd : decode Y.2.1 pc = .ok (.ifCond .le off, 3)) (ht : (pc : Int) + off = (tgt : Int)) (kt : a ≤ 0 → WA g l Y d post (tgt) lv (st) μ) (kf : ¬ (a ≤ 0) → WA g l Y d post (pc + 3) lv (st) μ) : WA g l Y d post (pc) lv (vI a :: st) μ := by
  intro p en s m args below meth c H locs ls C L hP hS
  have hi := iI_le ha (show -2147483648 ≤ (0 : Int) ∧ (0 : Int) < 2147483648 by decide)
  exact lv_if_le (x := iI a) C.1 C.2.1 hd ht (fun h => kt (hi.mp h) p en s m args below meth c H locs ls C L hP hS) (fun h => kf (fun q => h (hi.mpr q)) p en s m args below meth c H locs ls C L hP hS)
theorem w_goto {g : gG} {l : Launch} {Y : gY} {d : Nat} {post : gQ} {pc : Nat} {lv : List (Option gA)} {st : List gA} {μ : gM} {off : Int} {tgt : Nat} (hd : decode Y.2.1 pc = .ok (.goto off, 3)) (ht : (pc : Int) + off = (tgt : Int)) (kk : WA g l Y d post (tgt) lv (st) μ) : WA g l Y d post (pc) lv (st) μ := by
  intro p en s m args below meth c H locs ls C L hP hS
  exact lv_goto C.1 C.2.1 hd ht (kk p en s m args below meth c H locs ls C L hP hS)
def cmpI (a b : Int) : Int := if b < a then 1 else if a = b then 0 else -1
theorem lg_cmp_I {a b : Int} (ha : -9223372036854775808 ≤ a ∧ a < 9223372036854775808) (hb : -9223372036854775808 ≤ b ∧ b < 9223372036854775808) : lg_cmp (lI a) (lI b) = iI (cmpI a b) := by
  unfold lg_cmp cmpI
  simp only [gt_iff_lt, lI_lt hb ha, lI_eq ha hb]
  split
  · rfl
  · split <;> rfl
theorem cmpI_r (a b : Int) : -2147483648 ≤ cmpI a b ∧ cmpI a b < 2147483648 := by
  unfold cmpI
  split
  · decide
  · split <;> decide
theorem cmpI_eq (a b : Int) : cmpI a b = 0 ↔ a = b := by
  unfold cmpI
  split
  · omega
  · split <;> omega
theorem w_lcmp_eq {g : gG} {l : Launch} {Y : gY} {d : Nat} {post : gQ} {pc : Nat} {lv : List (Option gA)} {st : List gA} {μ : gM} {a b : Int} {off : Int} {tgt : Nat} (ha : -9223372036854775808 ≤ a ∧ a < 9223372036854775808) (hb : -9223372036854775808 ≤ b ∧ b < 9223372036854775808) (hd : decode Y.2.1 pc = .ok (.lcmp, 1)) (hd2 : decode Y.2.1 (pc + 1) = .ok (.ifCond .eq off, 3)) (ht : ((pc + 1 : Nat) : Int) + off = (tgt : Int)) (kt : a = b → WA g l Y d post (tgt) lv (st) μ) (kf : ¬ (a = b) → WA g l Y d post (pc + 1 + 3) lv (st) μ) : WA g l Y d post (pc) lv (vL b :: vL a :: st) μ := by
  have k2 := w_if_eq (g := g) (l := l) (Y := Y) (d := d) (post := post) (lv := lv) (st := st) (μ := μ) (cmpI_r a b) hd2 ht (fun h => kt ((cmpI_eq a b).mp h)) (fun h => kf (fun q => h ((cmpI_eq a b).mpr q)))
  intro p en s m args below meth c H locs ls C L hP hS
  refine W.lcmp (x := lI a) (y := lI b) C.1 C.2.1 hd ?_
  rw [lg_cmp_I ha hb]
  exact k2 p en s m args below meth c H locs ls C L hP hS
theorem cmpI_ne (a b : Int) : cmpI a b ≠ 0 ↔ a ≠ b := by
  unfold cmpI
  split
  · omega
  · split <;> omega
theorem w_lcmp_ne {g : gG} {l : Launch} {Y : gY} {d : Nat} {post : gQ} {pc : Nat} {lv : List (Option gA)} {st : List gA} {μ : gM} {a b : Int} {off : Int} {tgt : Nat} (ha : -9223372036854775808 ≤ a ∧ a < 9223372036854775808) (hb : -9223372036854775808 ≤ b ∧ b < 9223372036854775808) (hd : decode Y.2.1 pc = .ok (.lcmp, 1)) (hd2 : decode Y.2.1 (pc + 1) = .ok (.ifCond .ne off, 3)) (ht : ((pc + 1 : Nat) : Int) + off = (tgt : Int)) (kt : a ≠ b → WA g l Y d post (tgt) lv (st) μ) (kf : a = b → WA g l Y d post (pc + 1 + 3) lv (st) μ) : WA g l Y d post (pc) lv (vL b :: vL a :: st) μ := by
  have k2 := w_if_ne (g := g) (l := l) (Y := Y) (d := d) (post := post) (lv := lv) (st := st) (μ := μ) (cmpI_r a b) hd2 ht (fun h => kt ((cmpI_ne a b).mp h)) (fun h => kf ((cmpI_eq a b).mp h))
  intro p en s m args below meth c H locs ls C L hP hS
  refine W.lcmp (x := lI a) (y := lI b) C.1 C.2.1 hd ?_
  rw [lg_cmp_I ha hb]
  exact k2 p en s m args below meth c H locs ls C L hP hS
theorem cmpI_lt (a b : Int) : cmpI a b < 0 ↔ a < b := by
  unfold cmpI
  split
  · omega
  · split <;> omega
theorem w_lcmp_lt {g : gG} {l : Launch} {Y : gY} {d : Nat} {post : gQ} {pc : Nat} {lv : List (Option gA)} {st : List gA} {μ : gM} {a b : Int} {off : Int} {tgt : Nat} (ha : -9223372036854775808 ≤ a ∧ a < 9223372036854775808) (hb : -9223372036854775808 ≤ b ∧ b < 9223372036854775808) (hd : decode Y.2.1 pc = .ok (.lcmp, 1)) (hd2 : decode Y.2.1 (pc + 1) = .ok (.ifCond .lt off, 3)) (ht : ((pc + 1 : Nat) : Int) + off = (tgt : Int)) (kt : a < b → WA g l Y d post (tgt) lv (st) μ) (kf : ¬ (a < b) → WA g l Y d post (pc + 1 + 3) lv (st) μ) : WA g l Y d post (pc) lv (vL b :: vL a :: st) μ := by
  have k2 := w_if_lt (g := g) (l := l) (Y := Y) (d := d) (post := post) (lv := lv) (st := st) (μ := μ) (cmpI_r a b) hd2 ht (fun h => kt ((cmpI_lt a b).mp h)) (fun h => kf (fun q => h ((cmpI_lt a b).mpr q)))
  intro p en s m args below meth c H locs ls C L hP hS
  refine W.lcmp (x := lI a) (y := lI b) C.1 C.2.1 hd ?_
  rw [lg_cmp_I ha hb]
  exact k2 p en s m args below meth c H locs ls C L hP hS
theorem cmpI_ge (a b : Int) : 0 ≤ cmpI a b ↔ b ≤ a := by
  unfold cmpI
  split
  · omega
  · split <;> omega
theorem w_lcmp_ge {g : gG} {l : Launch} {Y : gY} {d : Nat} {post : gQ} {pc : Nat} {lv : List (Option gA)} {st : List gA} {μ : gM} {a b : Int} {off : Int} {tgt : Nat} (ha : -9223372036854775808 ≤ a ∧ a < 9223372036854775808) (hb : -9223372036854775808 ≤ b ∧ b < 9223372036854775808) (hd : decode Y.2.1 pc = .ok (.lcmp, 1)) (hd2 : decode Y.2.1 (pc + 1) = .ok (.ifCond .ge off, 3)) (ht : ((pc + 1 : Nat) : Int) + off = (tgt : Int)) (kt : b ≤ a → WA g l Y d post (tgt) lv (st) μ) (kf : ¬ (b ≤ a) → WA g l Y d post (pc + 1 + 3) lv (st) μ) : WA g l Y d post (pc) lv (vL b :: vL a :: st) μ := by
  have k2 := w_if_ge (g := g) (l := l) (Y := Y) (d := d) (post := post) (lv := lv) (st := st) (μ := μ) (cmpI_r a b) hd2 ht (fun h => kt ((cmpI_ge a b).mp h)) (fun h => kf (fun q => h ((cmpI_ge a b).mpr q)))
  intro p en s m args below meth c H locs ls C L hP hS
  refine W.lcmp (x := lI a) (y := lI b) C.1 C.2.1 hd ?_
  rw [lg_cmp_I ha hb]
  exact k2 p en s m args below meth c H locs ls C L hP hS
theorem cmpI_gt (a b : Int) : 0 < cmpI a b ↔ b < a := by
  unfold cmpI
  split
  · omega
  · split <;> omega
theorem w_lcmp_gt {g : gG} {l : Launch} {Y : gY} {d : Nat} {post : gQ} {pc : Nat} {lv : List (Option gA)} {st : List gA} {μ : gM} {a b : Int} {off : Int} {tgt : Nat} (ha : -9223372036854775808 ≤ a ∧ a < 9223372036854775808) (hb : -9223372036854775808 ≤ b ∧ b < 9223372036854775808) (hd : decode Y.2.1 pc = .ok (.lcmp, 1)) (hd2 : decode Y.2.1 (pc + 1) = .ok (.ifCond .gt off, 3)) (ht : ((pc + 1 : Nat) : Int) + off = (tgt : Int)) (kt : b < a → WA g l Y d post (tgt) lv (st) μ) (kf : ¬ (b < a) → WA g l Y d post (pc + 1 + 3) lv (st) μ) : WA g l Y d post (pc) lv (vL b :: vL a :: st) μ := by
  have k2 := w_if_gt (g := g) (l := l) (Y := Y) (d := d) (post := post) (lv := lv) (st := st) (μ := μ) (cmpI_r a b) hd2 ht (fun h => kt ((cmpI_gt a b).mp h)) (fun h => kf (fun q => h ((cmpI_gt a b).mpr q)))
  intro p en s m args below meth c H locs ls C L hP hS
  refine W.lcmp (x := lI a) (y := lI b) C.1 C.2.1 hd ?_
  rw [lg_cmp_I ha hb]
  exact k2 p en s m args below meth c H locs ls C L hP hS
theorem cmpI_le (a b : Int) : cmpI a b ≤ 0 ↔ a ≤ b := by
  unfold cmpI
  split
  · omega
  · split <;> omega
theorem w_lcmp_le {g : gG} {l : Launch} {Y : gY} {d : Nat} {post : gQ} {pc : Nat} {lv : List (Option gA)} {st : List gA} {μ : gM} {a b : Int} {off : Int} {tgt : Nat} (ha : -9223372036854775808 ≤ a ∧ a < 9223372036854775808) (hb : -9223372036854775808 ≤ b ∧ b < 9223372036854775808) (hd : decode Y.2.1 pc = .ok (.lcmp, 1)) (hd2 : decode Y.2.1 (pc + 1) = .ok (.ifCond .le off, 3)) (ht : ((pc + 1 : Nat) : Int) + off = (tgt : Int)) (kt : a ≤ b → WA g l Y d post (tgt) lv (st) μ) (kf : ¬ (a ≤ b) → WA g l Y d post (pc + 1 + 3) lv (st) μ) : WA g l Y d post (pc) lv (vL b :: vL a :: st) μ := by
  have k2 := w_if_le (g := g) (l := l) (Y := Y) (d := d) (post := post) (lv := lv) (st := st) (μ := μ) (cmpI_r a b) hd2 ht (fun h => kt ((cmpI_le a b).mp h)) (fun h => kf (fun q => h ((cmpI_le a b).mpr q)))
  intro p en s m args below meth c H locs ls C L hP hS
  refine W.lcmp (x := lI a) (y := lI b) C.1 C.2.1 hd ?_
  rw [lg_cmp_I ha hb]
  exact k2 p en s m args below meth c H locs ls C L hP hS
theorem w_tableOut {g : gG} {l : Launch} {Y : gY} {d : Nat} {post : gQ} {pc : Nat} {lv : List (Option gA)} {st : List gA} {μ : gM} {dflt lo hi : Int} {offs : Array Int} {len : Nat} {a : Int} {tgt : Nat} (ha : -2147483648 ≤ a ∧ a < 2147483648) (hd : decode Y.2.1 pc = .ok (.tableswitch dflt lo hi offs, len)) (h : a < lo ∨ hi < a) (ht : (pc : Int) + dflt = (tgt : Int)) (kk : WA g l Y d post (tgt) lv (st) μ) : WA g l Y d post (pc) lv (vI a :: st) μ := by
  intro p en s m args below meth c H locs ls C L hP hS
  exact lv_tableOut (x := iI a) C.1 C.2.1 hd (by rw [iI_toInt ha]; exact h) ht (kk p en s m args below meth c H locs ls C L hP hS)
theorem w_tableIn {g : gG} {l : Launch} {Y : gY} {d : Nat} {post : gQ} {pc : Nat} {lv : List (Option gA)} {st : List gA} {μ : gM} {dflt lo hi : Int} {offs : Array Int} {len : Nat} {a off : Int} (v : Int) {tgt : Nat} (hd : decode Y.2.1 pc = .ok (.tableswitch dflt lo hi offs, len)) (hv : a = v) (hr : -2147483648 ≤ v ∧ v < 2147483648) (h : ¬ v < lo ∧ ¬ hi < v) (ho : offs[(v - lo).toNat]? = some off) (ht : (pc : Int) + off = (tgt : Int)) (kk : WA g l Y d post (tgt) lv (st) μ) : WA g l Y d post (pc) lv (vI a :: st) μ := by
  intro p en s m args below meth c H locs ls C L hP hS
  subst hv
  exact lv_tableIn (x := iI a) C.1 C.2.1 hd (by rw [iI_toInt hr]; exact h.1) (by rw [iI_toInt hr]; exact h.2) (by rw [iI_toInt hr]; exact ho) ht (kk p en s m args below meth c H locs ls C L hP hS)
theorem w_iret {g : gG} {l : Launch} {Y : gY} {d : Nat} {post : gQ} {pc : Nat} {lv : List (Option gA)} {μ : gM} {e : Int} (hr : Y.2.2.2 = some .int) (hd : decode Y.2.1 pc = .ok (.ireturn, 1)) (hp : post (some (vI e)) μ) : WA g l Y d post pc lv [vI e] μ := by
  intro p en s m args below meth c H locs ls C L hP hS
  exact W.iret (v := iI e) C.1 C.2.1 (C.2.2.1.trans hr) (fun t ht hW => ⟨⟨some (vI e), μ, rfl, hp, by rw [ht]; exact hP⟩, hS.F ht⟩) hS.2.2 hd C.2.2.2.2.2.2.1
theorem w_zret {g : gG} {l : Launch} {Y : gY} {d : Nat} {post : gQ} {pc : Nat} {lv : List (Option gA)} {μ : gM} {e : Int} (hr : Y.2.2.2 = some .boolean) (he : e = 0 ∨ e = 1) (hd : decode Y.2.1 pc = .ok (.ireturn, 1)) (hp : post (some (vI e)) μ) : WA g l Y d post pc lv [vI e] μ := by
  intro p en s m args below meth c H locs ls C L hP hS
  exact W.zret (v := iI e) (ty := .boolean) C.1 C.2.1 (C.2.2.1.trans hr) (by rcases he with rfl | rfl <;> rfl) (fun t ht hW => ⟨⟨some (vI e), μ, rfl, hp, by rw [ht]; exact hP⟩, hS.F ht⟩) hS.2.2 hd C.2.2.2.2.2.2.1
theorem w_lret {g : gG} {l : Launch} {Y : gY} {d : Nat} {post : gQ} {pc : Nat} {lv : List (Option gA)} {μ : gM} {e : Int} (hr : Y.2.2.2 = some .long) (hd : decode Y.2.1 pc = .ok (.lreturn, 1)) (hp : post (some (vL e)) μ) : WA g l Y d post pc lv [vL e] μ := by
  intro p en s m args below meth c H locs ls C L hP hS
  exact W.lret (v := lI e) C.1 C.2.1 (C.2.2.1.trans hr) (fun t ht hW => ⟨⟨some (vL e), μ, rfl, hp, by rw [ht]; exact hP⟩, hS.F ht⟩) hS.2.2 hd C.2.2.2.2.2.2.1
theorem w_vret {g : gG} {l : Launch} {Y : gY} {d : Nat} {post : gQ} {pc : Nat} {lv : List (Option gA)} {μ : gM} (hr : Y.2.2.2 = none) (hd : decode Y.2.1 pc = .ok (.return_, 1)) (hp : post none μ) : WA g l Y d post pc lv [] μ := by
  intro p en s m args below meth c H locs ls C L hP hS
  exact W.vret C.1 C.2.1 (C.2.2.1.trans hr) (fun t ht hW => ⟨⟨none, μ, rfl, hp, by rw [ht]; exact hP⟩, hS.F ht⟩) hS.2.2 hd C.2.2.2.2.2.2.1
end
section
/-! cells by their kinds -/
def arr (a n : Nat) : Prop := a < 180 ∧ sh a = 6 ∧ ln a = n ∧ n < 1000
def arZ (a n : Nat) : Prop := a < 180 ∧ sh a = 7 ∧ ln a = n ∧ n < 1000
def arP (a : Nat) : Prop := a < 180 ∧ sh a = 8 ∧ ln a = 3
def obj (c ci : Nat) : Prop := c < 180 ∧ sh c = ci ∧ ci < 6
theorem cellE_i {g : gG} {μ : gM} {c : Nat} (h : sh c = 6) : cellE g μ c = .inl (g.2.2.1, ln c, .inl (fun k => iI (μ c k))) := by simp [cellE, h]
theorem cellE_z {g : gG} {μ : gM} {c : Nat} (h : sh c = 7) : cellE g μ c = .inl (g.2.2.2.1, ln c, .inl (fun k => iI (μ c k))) := by simp [cellE, h]
theorem cellE_p {g : gG} {μ : gM} {c : Nat} (h : sh c = 8) : cellE g μ c = .inl (g.2.2.2.2, ln c, .inr (.inr (.inr (.inr (fun k => some (g.1 (μ c k).toNat)))))) := by simp [cellE, h]
theorem cellE_o {g : gG} {μ : gM} {c ci : Nat} (h : sh c = ci) (hc : ci < 6) : cellE g μ c = .inr (ci, (ftab ci).mapIdx (fun k code => fv g μ c k code)) := by
  subst h
  unfold cellE
  split
  · omega
  · omega
  · omega
  · next n h6 h7 h8 => rfl
theorem fs_set {g : gG} {μ : gM} {c ci k code : Nat} {v : Int} {x : Value} (hf : (ftab ci)[k]? = some code) (hx : x = fv g (wr μ c k v) c k code) : ((ftab ci).mapIdx (fun k code => fv g μ c k code)).set k x = (ftab ci).mapIdx (fun j cd => fv g (wr μ c k v) c j cd) := by
  have hk := (List.getElem?_eq_some_iff.mp hf).1
  apply List.ext_getElem?
  intro i
  by_cases hi : i = k
  · subst hi
    rw [List.getElem?_set_self (by simpa using hk), List.getElem?_mapIdx, hf, hx]
    rfl
  · rw [List.getElem?_set_ne (Ne.symm hi), List.getElem?_mapIdx, List.getElem?_mapIdx]
    cases (ftab ci)[i]? with
    | none => rfl
    | some cd =>
      simp only [Option.map_some]
      congr 1
      have hi2 : (i : Int) ≠ k := by omega
      rcases cd with _ | _ | d <;> simp [fv, wr, hi2]
section GET
variable {g : gG} {l : Launch} {Y : gY} {d : Nat} {post : gQ} {pc : Nat} {lv : List (Option gA)} {st : List gA} {μ : gM}
theorem w_getI {c k idx ci : Nat} {Cn : String} {T : u_T} {N : Nat} (ki : Int) (ho : obj c ci) (hcl : vwCl[ci]? = some (Cn, T, N)) (hin : ∀ w ∈ u_ws Cn T N, w ∈ lw_gt) (hk : k < N) (hf : (ftab ci)[k]? = some 0) (hki : (k : Int) = ki) (hlink : Cond.fieldLink Y.1.cls idx (T k).1 (T k).2.1 (T k).2.2.1 ∈ lw_gt) (hd : decode Y.2.1 pc = .ok (.getfield idx, 3))
    (kk : WA g l Y d post (pc + 3) lv (vI (μ c ki) :: st) μ) : WA g l Y d post pc lv (vR c :: st) μ := by
  subst hki
  intro p en s m args below meth c0 H locs ls C L hP hS
  refine va_get (ref := (T k).1) (fs := (ftab ci).mapIdx (fun k code => fv g μ c k code)) C.1 C.2.1 C.2.2.2.2.2.1 hin C.2.2.2.2.1 C.2.2.2.2.2.2.2.1.1 hP c ?_ hcl k hk (C.2.2.2.2.2.1 _ hlink) (fun _ h => h) ?_ hd (kk p en s m args below meth c0 H locs ls C L hP hS)
  · rw [wl_get g μ ho.1, cellE_o ho.2.1 ho.2.2]
  · rw [List.getElem?_mapIdx, hf]
    rfl
theorem w_getL {c k idx ci : Nat} {Cn : String} {T : u_T} {N : Nat} (ki : Int) (ho : obj c ci) (hcl : vwCl[ci]? = some (Cn, T, N)) (hin : ∀ w ∈ u_ws Cn T N, w ∈ lw_gt) (hk : k < N) (hf : (ftab ci)[k]? = some 1) (hki : (k : Int) = ki) (hlink : Cond.fieldLink Y.1.cls idx (T k).1 (T k).2.1 (T k).2.2.1 ∈ lw_gt) (hd : decode Y.2.1 pc = .ok (.getfield idx, 3))
    (kk : WA g l Y d post (pc + 3) lv (vL (μ c ki) :: st) μ) : WA g l Y d post pc lv (vR c :: st) μ := by
  subst hki
  intro p en s m args below meth c0 H locs ls C L hP hS
  refine va_get (ref := (T k).1) (fs := (ftab ci).mapIdx (fun k code => fv g μ c k code)) C.1 C.2.1 C.2.2.2.2.2.1 hin C.2.2.2.2.1 C.2.2.2.2.2.2.2.1.1 hP c ?_ hcl k hk (C.2.2.2.2.2.1 _ hlink) (fun _ h => h) ?_ hd (kk p en s m args below meth c0 H locs ls C L hP hS)
  · rw [wl_get g μ ho.1, cellE_o ho.2.1 ho.2.2]
  · rw [List.getElem?_mapIdx, hf]
    rfl
theorem w_getR {c k idx ci dd : Nat} {Cn : String} {T : u_T} {N : Nat} (ho : obj c ci) (hcl : vwCl[ci]? = some (Cn, T, N)) (hin : ∀ w ∈ u_ws Cn T N, w ∈ lw_gt) (hk : k < N) (hf : (ftab ci)[k]? = some (dd + 2)) (hlink : Cond.fieldLink Y.1.cls idx (T k).1 (T k).2.1 (T k).2.2.1 ∈ lw_gt) (hd : decode Y.2.1 pc = .ok (.getfield idx, 3))
    (kk : WA g l Y d post (pc + 3) lv (vR (c + dd) :: st) μ) : WA g l Y d post pc lv (vR c :: st) μ := by
  intro p en s m args below meth c0 H locs ls C L hP hS
  refine va_get (ref := (T k).1) (fs := (ftab ci).mapIdx (fun k code => fv g μ c k code)) C.1 C.2.1 C.2.2.2.2.2.1 hin C.2.2.2.2.1 C.2.2.2.2.2.2.2.1.1 hP c ?_ hcl k hk (C.2.2.2.2.2.1 _ hlink) (fun _ h => h) ?_ hd (kk p en s m args below meth c0 H locs ls C L hP hS)
  · rw [wl_get g μ ho.1, cellE_o ho.2.1 ho.2.2]
  · rw [List.getElem?_mapIdx, hf]
    rfl
theorem w_putI {c k idx ci : Nat} {Cn : String} {T : u_T} {N : Nat} {tyf : Nat → FieldType} (ki : Int) {v : Int} (ho : obj c ci) (hcl : vwCl[ci]? = some (Cn, T, N)) (hin : ∀ w ∈ u_ws Cn T N, w ∈ lw_gt) (hty : ∀ k, k < N → parseFieldDescriptor (T k).2.2.1 = some (tyf k)) (hnm : ∀ a, a < N → ∀ b, b < N → a ≠ b → (T a).2.1 ≠ (T b).2.1) (hk : k < N) (hf : (ftab ci)[k]? = some 0) (hfin : (T k).2.2.2 = false) (htk : tyf k = .int ∨ (tyf k = .boolean ∧ (v = 0 ∨ v = 1))) (hki : (k : Int) = ki) (hlink : Cond.fieldLink Y.1.cls idx (T k).1 (T k).2.1 (T k).2.2.1 ∈ lw_gt) (hd : decode Y.2.1 pc = .ok (.putfield idx, 3))
    (kk : WA g l Y d post (pc + 3) lv st (wr μ c ki v)) : WA g l Y d post pc lv (vI v :: vR c :: st) μ := by
  subst hki
  intro p en s m args below meth c0 H locs ls C L hP hS
  have hlen : (ftab ci).length > k := (List.getElem?_eq_some_iff.mp hf).1
  have hnf : narrow (tyf k) (.int (iI v)) = .int (iI v) ∧ fits (tyf k) (.int (iI v)) = true := by
    rcases htk with h | ⟨h, rfl | rfl⟩ <;> rw [h] <;> exact ⟨rfl, rfl⟩
  refine va_put (ref := (T k).1) (ty := tyf k) (v := .int (iI v)) (fs := (ftab ci).mapIdx (fun k code => fv g μ c k code)) C.1 C.2.1 C.2.2.2.2.2.1 hin tyf hty hnm C.2.2.2.2.1 C.2.2.2.2.2.2.2.1.1 hP (wl_D C.2.2.2.2.2.2.2.2 μ) hS c ?_ hcl k hk (C.2.2.2.2.2.1 _ hlink) (fun _ h => h) hfin (hty k hk) hnf.1 hnf.2 (by simpa using hlen) hd (fun H1 locs1 hP1 hD1 hS1 => ?_)
  · rw [wl_get g μ ho.1, cellE_o ho.2.1 ho.2.2]
  · rw [fs_set (v := v) hf (by simp [fv, wr]), wl_set (g := g) (μ' := wr μ c k v) (cellE_o ho.2.1 ho.2.2) (fun a ha => wr_o ha)] at hP1
    exact kk p en s m args below meth c0 H1 locs1 ls C L hP1 hS1
theorem w_putL {c k idx ci : Nat} {Cn : String} {T : u_T} {N : Nat} {tyf : Nat → FieldType} (ki : Int) {v : Int} (ho : obj c ci) (hcl : vwCl[ci]? = some (Cn, T, N)) (hin : ∀ w ∈ u_ws Cn T N, w ∈ lw_gt) (hty : ∀ k, k < N → parseFieldDescriptor (T k).2.2.1 = some (tyf k)) (hnm : ∀ a, a < N → ∀ b, b < N → a ≠ b → (T a).2.1 ≠ (T b).2.1) (hk : k < N) (hf : (ftab ci)[k]? = some 1) (hfin : (T k).2.2.2 = false) (htk : tyf k = .long) (hki : (k : Int) = ki) (hlink : Cond.fieldLink Y.1.cls idx (T k).1 (T k).2.1 (T k).2.2.1 ∈ lw_gt) (hd : decode Y.2.1 pc = .ok (.putfield idx, 3))
    (kk : WA g l Y d post (pc + 3) lv st (wr μ c ki v)) : WA g l Y d post pc lv (vL v :: vR c :: st) μ := by
  subst hki
  intro p en s m args below meth c0 H locs ls C L hP hS
  have hlen : (ftab ci).length > k := (List.getElem?_eq_some_iff.mp hf).1
  refine va_put (ref := (T k).1) (ty := tyf k) (v := .long (lI v)) (fs := (ftab ci).mapIdx (fun k code => fv g μ c k code)) C.1 C.2.1 C.2.2.2.2.2.1 hin tyf hty hnm C.2.2.2.2.1 C.2.2.2.2.2.2.2.1.1 hP (wl_D C.2.2.2.2.2.2.2.2 μ) hS c ?_ hcl k hk (C.2.2.2.2.2.1 _ hlink) (fun _ h => h) hfin (hty k hk) (by rw [htk]; rfl) (by rw [htk]; rfl) (by simpa using hlen) hd (fun H1 locs1 hP1 hD1 hS1 => ?_)
  · rw [wl_get g μ ho.1, cellE_o ho.2.1 ho.2.2]
  · rw [fs_set (v := v) hf (by simp [fv, wr]), wl_set (g := g) (μ' := wr μ c k v) (cellE_o ho.2.1 ho.2.2) (fun a ha => wr_o ha)] at hP1
    exact kk p en s m args below meth c0 H1 locs1 ls C L hP1 hS1
theorem w_iald {a n : Nat} {i : Int} (hA : arr a n) (hi : 0 ≤ i ∧ i < n) (hd : decode Y.2.1 pc = .ok (.iaload, 1)) (kk : WA g l Y d post (pc + 1) lv (vI (μ a i) :: st) μ) : WA g l Y d post pc lv (vI i :: vR a :: st) μ := by
  intro p en s m args below meth c0 H locs ls C L hP hS
  obtain ⟨h1, h2, rfl, h4⟩ := hA
  refine va_iald (i := iI i) C.1 C.2.1 C.2.2.2.2.2.2.2.1.1 hP a 0 (by rw [wl_get g μ h1, cellE_i h2]) rfl (iI_in hi (by omega)) hd ?_
  have k2 := kk p en s m args below meth c0 H locs ls C L hP hS
  rw [iI_nat hi (by omega)]
  exact k2
theorem w_ialdB {a n : Nat} {i lo hi' : Int} (hB : ∀ k, lo ≤ μ a k ∧ μ a k ≤ hi') (hA : arr a n) (hi : 0 ≤ i ∧ i < n) (hd : decode Y.2.1 pc = .ok (.iaload, 1)) (kk : lo ≤ μ a i ∧ μ a i ≤ hi' → WA g l Y d post (pc + 1) lv (vI (μ a i) :: st) μ) : WA g l Y d post pc lv (vI i :: vR a :: st) μ :=
  w_iald hA hi hd (kk (hB i))
theorem w_zald {a n : Nat} {i : Int} (hA : arZ a n) (hi : 0 ≤ i ∧ i < n) (hd : decode Y.2.1 pc = .ok (.baload, 1)) (kk : WA g l Y d post (pc + 1) lv (vI (μ a i) :: st) μ) : WA g l Y d post pc lv (vI i :: vR a :: st) μ := by
  intro p en s m args below meth c0 H locs ls C L hP hS
  obtain ⟨h1, h2, rfl, h4⟩ := hA
  refine va_zald (i := iI i) C.1 C.2.1 C.2.2.2.2.2.2.2.1.1 hP a 1 (by rw [wl_get g μ h1, cellE_z h2]) rfl (iI_in hi (by omega)) hd ?_
  have k2 := kk p en s m args below meth c0 H locs ls C L hP hS
  rw [iI_nat hi (by omega)]
  exact k2
theorem upd_wr {μ : gM} {a n : Nat} {i x : Int} (hi : 0 ≤ i ∧ i < n) (hn : n < 2147483648) : upd (fun k : Nat => iI (μ a k)) (iI i).toNatClampNeg (iI x) = fun k : Nat => iI (wr μ a i x a k) := by
  funext k
  have h := iI_nat hi hn
  unfold upd wr
  by_cases hk : k = (iI i).toNatClampNeg
  · subst hk
    simp [h]
  · have h2 : (k : Int) ≠ i := by omega
    simp [hk, h2]
theorem w_iast {a n : Nat} {i x : Int} (hA : arr a n) (hi : 0 ≤ i ∧ i < n) (hd : decode Y.2.1 pc = .ok (.iastore, 1)) (kk : WA g l Y d post (pc + 1) lv st (wr μ a i x)) : WA g l Y d post pc lv (vI x :: vI i :: vR a :: st) μ := by
  intro p en s m args below meth c0 H locs ls C L hP hS
  obtain ⟨h1, h2, rfl, h4⟩ := hA
  refine va_iast (i := iI i) (x := iI x) C.1 C.2.1 C.2.2.2.2.2.2.2.1.1 hP (wl_D C.2.2.2.2.2.2.2.2 μ) hS a 0 (by rw [wl_get g μ h1, cellE_i h2]) rfl (iI_in hi (by omega)) hd (fun H1 locs1 hP1 hD1 hS1 => ?_)
  rw [upd_wr hi (by omega), wl_set (g := g) (μ' := wr μ a i x) (cellE_i h2) (fun b hb => wr_o hb)] at hP1
  exact kk p en s m args below meth c0 H1 locs1 ls C L hP1 hS1
theorem w_zast {a n : Nat} {i x : Int} (hA : arZ a n) (hi : 0 ≤ i ∧ i < n) (hx : x = 0 ∨ x = 1) (hd : decode Y.2.1 pc = .ok (.bastore, 1)) (kk : WA g l Y d post (pc + 1) lv st (wr μ a i x)) : WA g l Y d post pc lv (vI x :: vI i :: vR a :: st) μ := by
  intro p en s m args below meth c0 H locs ls C L hP hS
  obtain ⟨h1, h2, rfl, h4⟩ := hA
  refine va_zast (i := iI i) (x := iI x) C.1 C.2.1 C.2.2.2.2.2.2.2.1.1 hP (wl_D C.2.2.2.2.2.2.2.2 μ) hS a 1 (by rw [wl_get g μ h1, cellE_z h2]) rfl (iI_in hi (by omega)) hd (fun H1 locs1 hP1 hD1 hS1 => ?_)
  have hnar : vp_nar .boolean (iI x) = iI x := by rcases hx with rfl | rfl <;> rfl
  rw [hnar, upd_wr hi (by omega), wl_set (g := g) (μ' := wr μ a i x) (cellE_z h2) (fun b hb => wr_o hb)] at hP1
  exact kk p en s m args below meth c0 H1 locs1 ls C L hP1 hS1
theorem w_aald {a : Nat} {i : Int} (hA : arP a) (hi : 0 ≤ i ∧ i < 3) (hd : decode Y.2.1 pc = .ok (.aaload, 1)) (kk : WA g l Y d post (pc + 1) lv (vR (μ a i).toNat :: st) μ) : WA g l Y d post pc lv (vI i :: vR a :: st) μ := by
  intro p en s m args below meth c0 H locs ls C L hP hS
  obtain ⟨h1, h2, h3⟩ := hA
  refine va_aldq (i := iI i) (n := 3) (C := RX0) (cA := g.2.2.2.2) (f := fun k => some (g.1 (μ a k).toNat)) C.1 C.2.1 C.2.2.2.2.2.2.2.1.1 hP a 2 (by rw [wl_get g μ h1, cellE_p h2, h3]) rfl (iI_in hi (by omega)) hd ?_
  have k2 := kk p en s m args below meth c0 H locs ls C L hP hS
  rw [iI_nat (n := 3) hi (by omega)]
  exact k2
theorem w_aast {a c : Nat} {i : Int} (hA : arP a) (hc : obj c 0) (hi : 0 ≤ i ∧ i < 3) (hd : decode Y.2.1 pc = .ok (.aastore, 1)) (kk : WA g l Y d post (pc + 1) lv st (wr μ a i c)) : WA g l Y d post pc lv (vR c :: vI i :: vR a :: st) μ := by
  intro p en s m args below meth c0 H locs ls C L hP hS
  obtain ⟨h1, h2, h3⟩ := hA
  refine va_astq (i := iI i) (n := 3) (v := g.1 c) (r := (RX0, TX0, 14)) (vs := (ftab 0).mapIdx (fun k code => fv g μ c k code)) (cA := g.2.2.2.2) (f := fun k => some (g.1 (μ a k).toNat)) C.1 C.2.1 C.2.2.2.2.2.2.2.1.1 hP (wl_D C.2.2.2.2.2.2.2.2 μ) hS a 2 c 0 (by rw [wl_get g μ h1, cellE_p h2, h3]) rfl (by rw [wl_get g μ hc.1, cellE_o hc.2.1 hc.2.2]) rfl (iI_in hi (by omega)) hd (fun H1 locs1 hP1 hD1 hS1 => ?_)
  have hu : va_up (fun k : Nat => some (g.1 (μ a k).toNat)) (iI i).toNatClampNeg (some (g.1 c)) = fun k : Nat => some (g.1 (wr μ a i c a k).toNat) := by
    funext k
    have h := iI_nat (n := 3) hi (by omega)
    unfold va_up wr
    by_cases hk : k = (iI i).toNatClampNeg
    · subst hk
      simp [h]
    · have h2 : (k : Int) ≠ i := by omega
      simp [hk, h2]
  rw [hu, wl_set (g := g) (μ' := wr μ a i c) (by rw [cellE_p h2, h3]) (fun b hb => wr_o hb)] at hP1
  exact kk p en s m args below meth c0 H1 locs1 ls C L hP1 hS1
end GET
def gcat : gA → Nat
  | .inr (.inl _) => 2
  | _ => 1
theorem gcat_sum (g : gG) (st : List gA) : ((st.map (cv g)).map fun v => v.category).sum = (st.map gcat).sum := by
  induction st with
  | nil => rfl
  | cons v r ih =>
    simp only [List.map_cons, List.sum_cons, ih]
    congr 1
    rcases v with e | e | c <;> rfl
section MATH
variable {g : gG} {l : Launch} {Y : gY} {d : Nat} {post : gQ} {pc : Nat} {lv : List (Option gA)} {st : List gA} {μ : gM}
theorem w_max {idx : Nat} {a b : Int} (ha : -2147483648 ≤ a ∧ a < 2147483648) (hb : -2147483648 ≤ b ∧ b < 2147483648) (h1 : 1 ≤ d) (h2 : (st.map gcat).sum ≤ 27) (hl : Cond.methodLink Y.1.cls idx Lib.Math.max.name ∈ lw_gt) (hs : Cond.static Lib.Math.max.name ∈ lw_gt) (hi : Cond.initialized "java/lang/Math" ∈ lw_gt) (hc : Cond.code Lib.Math.max.name Lib.Math.max.code 2 (some .int) ∈ lw_gt) (hd : decode Y.2.1 pc = .ok (.invokestatic idx, 3))
    (kk : WA g l Y d post (pc + 3) lv (vI (max a b) :: st) μ) : WA g l Y d post pc lv (vI b :: vI a :: st) μ := by
  intro p en s m args below meth c0 H locs ls C L hP hS
  refine va_mmax (x := iI a) (y := iI b) C.1 C.2.1 (by rw [C.2.2.2.1]; exact L.1.symm) C.2.2.2.2.1 (C.2.2.2.2.2.1 _ hl) (C.2.2.2.2.2.1 _ hs) (C.2.2.2.2.2.1 _ hi) (C.2.2.2.2.2.1 _ hc) h1 (by rw [gcat_sum]; show _ ≤ 40 * d; omega) (Nat.zero_le _) (Nat.zero_le _) hd ?_
  rw [iI_max ha hb]
  exact kk p en s m args below meth c0 H locs ls C L hP hS
theorem w_min {idx : Nat} {a b : Int} (ha : -2147483648 ≤ a ∧ a < 2147483648) (hb : -2147483648 ≤ b ∧ b < 2147483648) (h1 : 1 ≤ d) (h2 : (st.map gcat).sum ≤ 27) (hl : Cond.methodLink Y.1.cls idx Lib.Math.min.name ∈ lw_gt) (hs : Cond.static Lib.Math.min.name ∈ lw_gt) (hi : Cond.initialized "java/lang/Math" ∈ lw_gt) (hc : Cond.code Lib.Math.min.name Lib.Math.min.code 2 (some .int) ∈ lw_gt) (hd : decode Y.2.1 pc = .ok (.invokestatic idx, 3))
    (kk : WA g l Y d post (pc + 3) lv (vI (min a b) :: st) μ) : WA g l Y d post pc lv (vI b :: vI a :: st) μ := by
  intro p en s m args below meth c0 H locs ls C L hP hS
  refine va_mmin (x := iI a) (y := iI b) C.1 C.2.1 (by rw [C.2.2.2.1]; exact L.1.symm) C.2.2.2.2.1 (C.2.2.2.2.2.1 _ hl) (C.2.2.2.2.2.1 _ hs) (C.2.2.2.2.2.1 _ hi) (C.2.2.2.2.2.1 _ hc) h1 (by rw [gcat_sum]; show _ ≤ 40 * d; omega) (Nat.zero_le _) (Nat.zero_le _) hd ?_
  rw [iI_min ha hb]
  exact kk p en s m args below meth c0 H locs ls C L hP hS
def cpy (μ : gM) (a0 a1 : Nat) (n : Int) : gM := fun a j => if a = a1 ∧ 0 ≤ j ∧ j < n then μ a0 j else μ a j
theorem cpy_o {μ : gM} {a0 a1 a : Nat} {n : Int} (h : a ≠ a1) : cpy μ a0 a1 n a = μ a := by
  funext j
  simp [cpy, h]
theorem w_copy {idx a0 a1 n : Nat} {ni : Int} (hA0 : arr a0 n) (hA1 : arr a1 n) (hni : (n : Int) = ni) (h1 : 1 ≤ d) (h2 : (st.map gcat).sum ≤ 8) (hl : Cond.methodLink Y.1.cls idx arraycopyName ∈ lw_gt) (hn : Cond.native arraycopyName ∈ lw_gt) (hs : Cond.static arraycopyName ∈ lw_gt) (hi : Cond.initialized "java/lang/System" ∈ lw_gt) (hd : decode Y.2.1 pc = .ok (.invokestatic idx, 3))
    (kk : WA g l Y d post (pc + 3) lv st (cpy μ a0 a1 ni)) : WA g l Y d post pc lv (vI ni :: vI 0 :: vR a1 :: vI 0 :: vR a0 :: st) μ := by
  subst hni
  intro p en s m args below meth c0 H locs ls C L hP hS
  obtain ⟨p1, p2, p3, p4⟩ := hA0
  obtain ⟨q1, q2, q3, q4⟩ := hA1
  have hz : (iI 0).toNatClampNeg = 0 := rfl
  have hnn : (iI n).toNatClampNeg = n := by
    show (iI n).toInt.toNat = n
    rw [iI_toInt (by omega)]
    omega
  have hn0 : ¬ iI n < 0 := by
    have : iI n < iI 0 ↔ (n : Int) < 0 := iI_lt (by omega) (by omega)
    intro h
    have := this.mp h
    omega
  have hwrd : nativeFrameWords "java/lang/System" "arraycopy" 5 + 11 ≤ 32 := by decide +kernel
  refine va_copyi (sp := iI 0) (dp := iI 0) (n := iI n) (n0 := n) (n1 := n) (ty := .int) (f := fun k => iI (μ a0 k)) (g := fun k => iI (μ a1 k)) C.1 C.2.1 (by rw [C.2.2.2.1]; exact L.1.symm) C.2.2.2.2.1 (C.2.2.2.2.2.1 _ hl) (C.2.2.2.2.2.1 _ hn) (C.2.2.2.2.2.1 _ hs) (C.2.2.2.2.2.1 _ hi) C.2.2.2.2.2.2.2.1.1 hP (wl_D C.2.2.2.2.2.2.2.2 μ) hS a0 a1 0 0 (by rw [wl_get g μ p1, cellE_i p2, p3]) (by rw [wl_get g μ q1, cellE_i q2, q3]) rfl rfl rfl (by decide) (by decide) hn0 (by rw [hz, hnn]; omega) (by rw [hz, hnn]; omega) (fun i _ => rfl) h1 (by rw [gcat_sum]; show _ ≤ 40 * d; omega) hd (fun H1 locs1 hP1 hD1 hS1 => ?_)
  have hu : va_cpy (fun k : Nat => iI (μ a0 k)) (fun k : Nat => iI (μ a1 k)) (iI 0).toNatClampNeg (iI 0).toNatClampNeg (iI n).toNatClampNeg = fun k : Nat => iI (cpy μ a0 a1 n a1 k) := by
    funext k
    rw [hz, hnn]
    unfold va_cpy cpy
    by_cases hk : k < n
    · rw [if_pos ⟨Nat.zero_le _, by omega⟩, if_pos ⟨rfl, by omega, by omega⟩]
      simp
    · rw [if_neg (by omega), if_neg (by omega)]
  rw [hu, wl_set (g := g) (μ' := cpy μ a0 a1 n) (by rw [cellE_i q2, q3]) (fun b hb => cpy_o hb)] at hP1
  exact kk p en s m args below meth c0 H1 locs1 ls C L hP1 hS1
end MATH
end
section
/-! calls -/
theorem wK_call {g : gG} {s U : State} {H : Heap} {locs : List Loc} (h : wK g s) (hS : va_S (wA g) s.heap H locs) (hU : U.heap = H) (hW : s.WarmedH U.vm) : wK g U := by
  obtain ⟨qK, ⟨qN, q1, q2, q3⟩, qZ⟩ := h
  refine ⟨va_K.moved hW.alike qK, ⟨qN.warmM hW, q1.warm hW, q2.warm hW, q3.warm hW⟩, ?_⟩
  rw [hU]
  exact ⟨(qZ.1.kept hS.2.1).moved hW.alike, (qZ.2.kept hS.2.1).moved hW.alike⟩
theorem run_go {p : Program} {l : Launch} {e : Env} {R : Room} {s : State} {m : MethodId} {args : Array Value} {below : List Frame} {meth : Method} {c : Code} {H : Heap} {locs : List Loc} {Q : State → Prop} {g : gG} {q : gQ} {pc : Nat} {ls : Array Slot} {st0 rest : List Value} {a : Array Value}
    (hr : va_Run p l e R s m args below meth c H locs 0 0 0 0 (F0 m pc ls st0) rest (QQ g q a) (wA g)) (hS : va_S (wA g) s.heap H locs)
    (kk : ∀ (r : Option gA) (μ' : gM) (H1 : Heap) (locs1 : List Loc), q r μ' → va_P g.2.1 vwCl (wl g μ') H1 → va_S (wA g) s.heap H1 locs1 → W p l e R s m args below meth c H1 locs1 0 0 Q (F0 m (pc + 3) ls ((r.map (cv g)).toList ++ rest))) : W p l e R s m args below meth c H locs 0 0 Q (F0 m pc ls st0) := by
  intro T hT X
  obtain ⟨v, st₀, t, T', L, h0, X', hL, e1, e2, ⟨⟨r, μ', hv, hq, hP'⟩, hz, hk⟩, st⟩ := hr T hT X
  cases hv
  rw [h0] at hz hk
  obtain ⟨t2, a1, b1⟩ := kk r μ' T'.heap (locs ++ L) hq (by rw [e1]; exact hP')
    ⟨Nat.le_trans hS.1 (by rw [e1]; exact hz), fun q h1 h2 => by rw [e1, hk q (Nat.lt_of_lt_of_le h1 hS.1) h2]; exact hS.2.1 q h1 h2, fun q hq => by
      rcases List.mem_append.mp hq with h | h
      · exact hS.2.2 q h
      · exact hL q h⟩ T' rfl X'
  exact ⟨t2, st t2 a1, b1⟩
def kD (Y : gY) (n : Nat) : Prop := (Y.1.cls ≠ "java/lang/invoke/MethodHandle" ∧ Y.1.cls ≠ "java/lang/invoke/VarHandle" ∧ (parseMethodDescriptor Y.1.desc).map (fun d => d.parameters.length) = some n) ∧ Y.2.2.1 ≤ 21
def kV (Y : gY) (n : Nat) : Prop := Cond.code Y.1 Y.2.1 Y.2.2.1 Y.2.2.2 ∈ lw_gt ∧ Cond.instanceMethod Y.1 ∈ lw_gt ∧ Cond.selects Y.1.cls Y.1 Y.1 ∈ lw_gt ∧ Cond.initialized Y.1.cls ∈ lw_gt ∧ kD Y n
def kS (Y : gY) (n : Nat) : Prop := Cond.code Y.1 Y.2.1 Y.2.2.1 Y.2.2.2 ∈ lw_gt ∧ Cond.static Y.1 ∈ lw_gt ∧ Cond.initialized Y.1.cls ∈ lw_gt ∧ kD Y n
theorem wsY_good {Y : gY} (h : Cond.code Y.1 Y.2.1 Y.2.2.1 Y.2.2.2 ∈ lw_gt) : ∀ w ∈ wsY Y, w ∈ lw_gt := fun w hw => by
  rcases List.mem_cons.mp hw with rfl | h2
  · exact h
  · exact h2
theorem gtIn {ws : List Cond} (h : ∀ w ∈ ws, w ∈ lw_gt) : GoodIn lw_gt ws := fun w hw => ⟨h w hw, gt_good (h w hw)⟩
theorem cvToList (g : gG) (r : Option gA) (st : List gA) : (r.map (cv g)).toList ++ st.map (cv g) = (r.toList ++ st).map (cv g) := by
  cases r <;> rfl
section CALL
variable {g : gG} {l : Launch} {Y : gY} {d : Nat} {post : gQ} {pc : Nat} {lv : List (Option gA)} {st : List gA} {μ : gM}
theorem w_callV {Yc : gY} {dc n idx b ci N : Nat} {T : u_T} {as : List gA} {q : gQ} (hk : kV Yc n) (hl : Cond.methodLink Y.1.cls idx Yc.1 ∈ lw_gt) (ho : obj b ci) (hcl : vwCl[ci]? = some (Yc.1.cls, T, N)) (hn : as.length = n) (hst : (st.map gcat).sum ≤ 8) (hdd : dc + 1 ≤ d) (hd : decode Y.2.1 pc = .ok (.invokevirtual idx, 3)) (hC : CT g l Yc dc (vR b :: as) μ q)
    (kk : ∀ (r : Option gA) (μ' : gM), q r μ' → WA g l Y d post (pc + 3) lv (r.toList ++ st) μ') : WA g l Y d post pc lv (as.reverse ++ vR b :: st) μ := by
  intro p en s m args below meth c0 H locs ls C L hP hS
  obtain ⟨k1, k2, k3, k4, k5, k6⟩ := hk
  have hts := C.2.2.2.2.2.1
  have cw : CallW (RM d) s args Y.1.cls Yc.1.cls idx Yc.1 Yc.2.1 Yc.2.2.1 Yc.2.2.2 (wsY Yc) (RM dc) 0 0 n := by
    refine cwV n hts (gtIn (fun w hw => ?_)) rfl rfl rfl ⟨rfl, k5⟩ ⟨hdd, by show 8 + (Yc.2.2.1 + 11) + 40 * dc ≤ 40 * d; omega⟩
    rcases List.mem_append.mp hw with h | h
    · simp only [List.mem_cons, List.not_mem_nil, or_false] at h
      rcases h with rfl | rfl | rfl | rfl
      · exact hl
      · exact k2
      · exact k3
      · exact k4
    · exact wsY_good k1 w h
  have hmap : (as.reverse ++ vR b :: st).map (cv g) = (as.map (cv g)).reverse ++ .ref (g.1 b) :: st.map (cv g) := by
    simp [List.map_reverse, cv]
  rw [hmap]
  refine run_go (va_runV (As := as.map (cv g)) (rest := st.map (cv g)) ⟨C.1, C.2.1, C.2.2.2.1, C.2.2.2.2.1, hts⟩ hC cw ⟨PP_blind g _ μ, va_recv C.2.2.2.2.2.2.2.1.1 hP hcl (by rw [wl_get g μ ho.1, cellE_o ho.2.1 ho.2.2]), fun U hU hW => ⟨rfl, wK_call C.2.2.2.2.2.2.2.1 hS hU hW, C.2.2.2.2.2.2.2.2, by rw [hU]; exact hP⟩⟩ rfl (by rw [List.length_map]; exact hn) L.1 rfl (lv_room (by rw [gcat_sum]; exact hst)) hd ⟨Nat.le_refl _, Nat.le_refl _⟩) hS (fun r μ' H1 locs1 hq hP1 hS1 => ?_)
  rw [cvToList]
  exact kk r μ' hq p en s m args below meth c0 H1 locs1 ls C L hP1 hS1
theorem w_callS {Yc : gY} {dc n idx : Nat} {as : List gA} {q : gQ} (hk : kS Yc n) (hl : Cond.methodLink Y.1.cls idx Yc.1 ∈ lw_gt) (hn : as.length = n) (hst : (st.map gcat).sum ≤ 8) (hdd : dc + 1 ≤ d) (hd : decode Y.2.1 pc = .ok (.invokestatic idx, 3)) (hC : CT g l Yc dc as μ q)
    (kk : ∀ (r : Option gA) (μ' : gM), q r μ' → WA g l Y d post (pc + 3) lv (r.toList ++ st) μ') : WA g l Y d post pc lv (as.reverse ++ st) μ := by
  intro p en s m args below meth c0 H locs ls C L hP hS
  obtain ⟨k1, k2, k4, k5, k6⟩ := hk
  have hts := C.2.2.2.2.2.1
  have cw : CallB (RM d) s args Y.1.cls idx Yc.1 Yc.2.1 Yc.2.2.1 Yc.2.2.2 (wsY Yc) (RM dc) 0 0 n ∧ (Cond.static Yc.1).before args s = true := by
    refine va_cwS n hts (gtIn (fun w hw => ?_)) rfl rfl rfl k5 ⟨hdd, by show 8 + (Yc.2.2.1 + 11) + 40 * dc ≤ 40 * d; omega⟩
    rcases List.mem_append.mp hw with h | h
    · simp only [List.mem_cons, List.not_mem_nil, or_false] at h
      rcases h with rfl | rfl | rfl
      · exact hl
      · exact k2
      · exact k4
    · exact wsY_good k1 w h
  have hmap : (as.reverse ++ st).map (cv g) = (as.map (cv g)).reverse ++ st.map (cv g) := by
    simp [List.map_reverse]
  rw [hmap]
  refine run_go (va_runS (As := as.map (cv g)) (rest := st.map (cv g)) ⟨C.1, C.2.1, C.2.2.2.1, C.2.2.2.2.1, hts⟩ hC cw ⟨PP_blind g _ μ, fun U hU hW => ⟨rfl, wK_call C.2.2.2.2.2.2.2.1 hS hU hW, C.2.2.2.2.2.2.2.2, by rw [hU]; exact hP⟩⟩ rfl (by rw [List.length_map]; exact hn) L.1 rfl (lv_room (by rw [gcat_sum]; exact hst)) hd ⟨Nat.le_refl _, Nat.le_refl _⟩) hS (fun r μ' H1 locs1 hq hP1 hS1 => ?_)
  rw [cvToList]
  exact kk r μ' hq p en s m args below meth c0 H1 locs1 ls C L hP1 hS1
theorem w_callSN {Yc : gY} {dc n idx : Nat} {host : String} {as : List gA} {q : gQ} (hk : kS Yc n) (hl : ∀ s, wK g s → va_Nw (.methodLinkNest Y.1.cls idx Yc.1 host) s) (hn : as.length = n) (hst : (st.map gcat).sum ≤ 8) (hdd : dc + 1 ≤ d) (hd : decode Y.2.1 pc = .ok (.invokestatic idx, 3)) (hC : CT g l Yc dc as μ q)
    (kk : ∀ (r : Option gA) (μ' : gM), q r μ' → WA g l Y d post (pc + 3) lv (r.toList ++ st) μ') : WA g l Y d post pc lv (as.reverse ++ st) μ := by
  intro p en s m args below meth c0 H locs ls C L hP hS
  obtain ⟨k1, k2, k4, k5, k6⟩ := hk
  have hts := C.2.2.2.2.2.1
  have cw : va_CN (RM d) s args Y.1.cls idx Yc.1 host Yc.2.1 Yc.2.2.1 Yc.2.2.2 (wsY Yc) (RM dc) 0 0 n :=
    va_cnB n hts (gtIn (wsY_good k1)) rfl rfl rfl (hl s C.2.2.2.2.2.2.2.1) (hts _ k4) k5 ⟨hdd, by show 8 + (Yc.2.2.1 + 11) + 40 * dc ≤ 40 * d; omega⟩
  have hmap : (as.reverse ++ st).map (cv g) = (as.map (cv g)).reverse ++ st.map (cv g) := by
    simp [List.map_reverse]
  rw [hmap]
  refine run_go (va_runSN (As := as.map (cv g)) (rest := st.map (cv g)) ⟨C.1, C.2.1, C.2.2.2.1, C.2.2.2.2.1, hts⟩ hC ⟨cw, hts _ k2, trivial⟩ ⟨PP_blind g _ μ, fun U hU hW => ⟨rfl, wK_call C.2.2.2.2.2.2.2.1 hS hU hW, C.2.2.2.2.2.2.2.2, by rw [hU]; exact hP⟩⟩ rfl (by rw [List.length_map]; exact hn) L.1 rfl (lv_room (by rw [gcat_sum]; exact hst)) hd ⟨Nat.le_refl _, Nat.le_refl _⟩) hS (fun r μ' H1 locs1 hq hP1 hS1 => ?_)
  rw [cvToList]
  exact kk r μ' hq p en s m args below meth c0 H1 locs1 ls C L hP1 hS1
end CALL
def pI (q : Int → gM → Prop) : gQ := fun r μ' => ∃ e, r = some (vI e) ∧ q e μ'
def pL (q : Int → gM → Prop) : gQ := fun r μ' => ∃ e, r = some (vL e) ∧ q e μ'
def pV (q : gM → Prop) : gQ := fun r μ' => r = none ∧ q μ'
theorem CT.weaken {g : gG} {l : Launch} {Y : gY} {d : Nat} {av : List gA} {μ : gM} {q q' : gQ} (h : CT g l Y d av μ q) (hq : ∀ r μ', q r μ' → q' r μ') : CT g l Y d av μ q' := by
  intro p e h1 h2 h3 s m args below h4 h5 h6 h7
  obtain ⟨k, o, h8, h9, h10, ⟨⟨⟨r, μ', a1, a2, a3⟩, a4⟩, a5⟩⟩ := h p e h1 h2 h3 s m args below h4 h5 h6 h7
  exact ⟨k, o, h8, h9, h10, ⟨⟨⟨r, μ', a1, hq _ _ a2, a3⟩, a4⟩, a5⟩⟩
theorem w_post {g : gG} {l : Launch} {Y : gY} {d : Nat} {post post' : gQ} {pc : Nat} {lv : List (Option gA)} {st : List gA} {μ : gM} (h : WA g l Y d post pc lv st μ) (hq : ∀ r μ', post r μ' → post' r μ') : WA g l Y d post' pc lv st μ := by
  intro p en s m args below meth c0 H locs ls C L hP hS T hT X
  obtain ⟨t, a, o, h1, h2, ⟨⟨r, μ', b1, b2, b3⟩, b4⟩, h4⟩ := h p en s m args below meth c0 H locs ls C L hP hS T hT X
  exact ⟨t, a, o, h1, h2, ⟨⟨r, μ', b1, hq _ _ b2, b3⟩, b4⟩, h4⟩
section CALL2
variable {g : gG} {l : Launch} {Y : gY} {d : Nat} {post : gQ} {pc : Nat} {lv : List (Option gA)} {st : List gA} {μ : gM}
theorem w_iretP {e : Int} {q : Int → gM → Prop} (hr : Y.2.2.2 = some .int) (hd : decode Y.2.1 pc = .ok (.ireturn, 1)) (hp : q e μ) : WA g l Y d (pI q) pc lv [vI e] μ := w_iret hr hd ⟨e, rfl, hp⟩
theorem w_zretP {e : Int} {q : Int → gM → Prop} (hr : Y.2.2.2 = some .boolean) (hd : decode Y.2.1 pc = .ok (.ireturn, 1)) (he : e = 0 ∨ e = 1) (hp : q e μ) : WA g l Y d (pI q) pc lv [vI e] μ := w_zret hr he hd ⟨e, rfl, hp⟩
theorem w_lretP {e : Int} {q : Int → gM → Prop} (hr : Y.2.2.2 = some .long) (hd : decode Y.2.1 pc = .ok (.lreturn, 1)) (hp : q e μ) : WA g l Y d (pL q) pc lv [vL e] μ := w_lret hr hd ⟨e, rfl, hp⟩
theorem w_vretP {q : gM → Prop} (hr : Y.2.2.2 = none) (hd : decode Y.2.1 pc = .ok (.return_, 1)) (hp : q μ) : WA g l Y d (pV q) pc lv [] μ := w_vret hr hd ⟨rfl, hp⟩
theorem kI {q : Int → gM → Prop} (kk : ∀ (e : Int) (μ' : gM), q e μ' → WA g l Y d post pc lv (vI e :: st) μ') : ∀ (r : Option gA) (μ' : gM), pI q r μ' → WA g l Y d post pc lv (r.toList ++ st) μ' := by
  rintro r μ' ⟨e, rfl, h⟩
  exact kk e μ' h
theorem kL {q : Int → gM → Prop} (kk : ∀ (e : Int) (μ' : gM), q e μ' → WA g l Y d post pc lv (vL e :: st) μ') : ∀ (r : Option gA) (μ' : gM), pL q r μ' → WA g l Y d post pc lv (r.toList ++ st) μ' := by
  rintro r μ' ⟨e, rfl, h⟩
  exact kk e μ' h
theorem kU {q : gM → Prop} (kk : ∀ (μ' : gM), q μ' → WA g l Y d post pc lv st μ') : ∀ (r : Option gA) (μ' : gM), pV q r μ' → WA g l Y d post pc lv (r.toList ++ st) μ' := by
  rintro r μ' ⟨rfl, h⟩
  exact kk μ' h
end CALL2
end
section
theorem gt_i (i : Nat) {w : Cond} (h : lw_tbl[i]? = some w) (hg : goodWord w = true) : w ∈ lw_gt := gt_of (List.mem_of_getElem? h) hg
theorem inG0 : ∀ w ∈ u_ws RX0 TX0 14, w ∈ lw_gt := fun w h => gt_of (inX0 w h) (List.all_eq_true.mp (show (u_ws RX0 TX0 14).all goodWord = true by decide +kernel) w h)
theorem inG1 : ∀ w ∈ u_ws RX1 TX1 2, w ∈ lw_gt := fun w h => gt_of (inX1 w h) (List.all_eq_true.mp (show (u_ws RX1 TX1 2).all goodWord = true by decide +kernel) w h)
theorem inG2 : ∀ w ∈ u_ws RX2 TX2 6, w ∈ lw_gt := fun w h => gt_of (inX2 w h) (List.all_eq_true.mp (show (u_ws RX2 TX2 6).all goodWord = true by decide +kernel) w h)
theorem inG3 : ∀ w ∈ u_ws RX3 TX3 4, w ∈ lw_gt := fun w h => gt_of (inX3 w h) (List.all_eq_true.mp (show (u_ws RX3 TX3 4).all goodWord = true by decide +kernel) w h)
theorem inG4 : ∀ w ∈ u_ws RX4 TX4 9, w ∈ lw_gt := fun w h => gt_of (inX4 w h) (List.all_eq_true.mp (show (u_ws RX4 TX4 9).all goodWord = true by decide +kernel) w h)
theorem inG5 : ∀ w ∈ u_ws RX5 TX5 20, w ∈ lw_gt := fun w h => gt_of (inX5 w h) (List.all_eq_true.mp (show (u_ws RX5 TX5 20).all goodWord = true by decide +kernel) w h)
theorem fl_X0_15 : Cond.fieldLink RX0 15 "HailVotes$Canton" "age" "[I" ∈ lw_gt := gt_i 97 (by decide +kernel) rfl
theorem gf_X0_15 {g : gG} {l : Launch} {Y : gY} {d : Nat} {post : gQ} {pc : Nat} {lv : List (Option gA)} {st : List gA} {μ : gM} (hY : Y.1.cls = RX0) {c : Nat} (ho : obj c 0) (hd : decode Y.2.1 pc = .ok (.getfield 15, 3)) (kk : WA g l Y d post (pc + 3) lv (vR (c + 2) :: st) μ) : WA g l Y d post pc lv (vR c :: st) μ := w_getR (dd := 2) (k := 4) (ci := 0) (c := c) ho rfl inG0 (by decide) rfl (by rw [hY]; exact fl_X0_15) hd kk
theorem fl_X0_18 : Cond.fieldLink RX0 18 "HailVotes$Canton" "cover" "[I" ∈ lw_gt := gt_i 98 (by decide +kernel) rfl
theorem gf_X0_18 {g : gG} {l : Launch} {Y : gY} {d : Nat} {post : gQ} {pc : Nat} {lv : List (Option gA)} {st : List gA} {μ : gM} (hY : Y.1.cls = RX0) {c : Nat} (ho : obj c 0) (hd : decode Y.2.1 pc = .ok (.getfield 18, 3)) (kk : WA g l Y d post (pc + 3) lv (vR (c + 3) :: st) μ) : WA g l Y d post pc lv (vR c :: st) μ := w_getR (dd := 3) (k := 5) (ci := 0) (c := c) ho rfl inG0 (by decide) rfl (by rw [hY]; exact fl_X0_18) hd kk
theorem fl_X0_21 : Cond.fieldLink RX0 21 "HailVotes$Canton" "blueShards" "[I" ∈ lw_gt := gt_i 100 (by decide +kernel) rfl
theorem gf_X0_21 {g : gG} {l : Launch} {Y : gY} {d : Nat} {post : gQ} {pc : Nat} {lv : List (Option gA)} {st : List gA} {μ : gM} (hY : Y.1.cls = RX0) {c : Nat} (ho : obj c 0) (hd : decode Y.2.1 pc = .ok (.getfield 21, 3)) (kk : WA g l Y d post (pc + 3) lv (vR (c + 4) :: st) μ) : WA g l Y d post pc lv (vR c :: st) μ := w_getR (dd := 4) (k := 6) (ci := 0) (c := c) ho rfl inG0 (by decide) rfl (by rw [hY]; exact fl_X0_21) hd kk
theorem fl_X0_24 : Cond.fieldLink RX0 24 "HailVotes$Canton" "brownShards" "[I" ∈ lw_gt := gt_i 102 (by decide +kernel) rfl
theorem gf_X0_24 {g : gG} {l : Launch} {Y : gY} {d : Nat} {post : gQ} {pc : Nat} {lv : List (Option gA)} {st : List gA} {μ : gM} (hY : Y.1.cls = RX0) {c : Nat} (ho : obj c 0) (hd : decode Y.2.1 pc = .ok (.getfield 24, 3)) (kk : WA g l Y d post (pc + 3) lv (vR (c + 5) :: st) μ) : WA g l Y d post pc lv (vR c :: st) μ := w_getR (dd := 5) (k := 7) (ci := 0) (c := c) ho rfl inG0 (by decide) rfl (by rw [hY]; exact fl_X0_24) hd kk
theorem fl_X0_27 : Cond.fieldLink RX0 27 "HailVotes$Canton" "first" "[I" ∈ lw_gt := gt_i 104 (by decide +kernel) rfl
theorem gf_X0_27 {g : gG} {l : Launch} {Y : gY} {d : Nat} {post : gQ} {pc : Nat} {lv : List (Option gA)} {st : List gA} {μ : gM} (hY : Y.1.cls = RX0) {c : Nat} (ho : obj c 0) (hd : decode Y.2.1 pc = .ok (.getfield 27, 3)) (kk : WA g l Y d post (pc + 3) lv (vR (c + 6) :: st) μ) : WA g l Y d post pc lv (vR c :: st) μ := w_getR (dd := 6) (k := 8) (ci := 0) (c := c) ho rfl inG0 (by decide) rfl (by rw [hY]; exact fl_X0_27) hd kk
theorem fl_X0_30 : Cond.fieldLink RX0 30 "HailVotes$Canton" "last" "[I" ∈ lw_gt := gt_i 105 (by decide +kernel) rfl
theorem gf_X0_30 {g : gG} {l : Launch} {Y : gY} {d : Nat} {post : gQ} {pc : Nat} {lv : List (Option gA)} {st : List gA} {μ : gM} (hY : Y.1.cls = RX0) {c : Nat} (ho : obj c 0) (hd : decode Y.2.1 pc = .ok (.getfield 30, 3)) (kk : WA g l Y d post (pc + 3) lv (vR (c + 7) :: st) μ) : WA g l Y d post pc lv (vR c :: st) μ := w_getR (dd := 7) (k := 9) (ci := 0) (c := c) ho rfl inG0 (by decide) rfl (by rw [hY]; exact fl_X0_30) hd kk
theorem fl_X0_33 : Cond.fieldLink RX0 33 "HailVotes$Canton" "wind" "[I" ∈ lw_gt := gt_i 106 (by decide +kernel) rfl
theorem gf_X0_33 {g : gG} {l : Launch} {Y : gY} {d : Nat} {post : gQ} {pc : Nat} {lv : List (Option gA)} {st : List gA} {μ : gM} (hY : Y.1.cls = RX0) {c : Nat} (ho : obj c 0) (hd : decode Y.2.1 pc = .ok (.getfield 33, 3)) (kk : WA g l Y d post (pc + 3) lv (vR (c + 8) :: st) μ) : WA g l Y d post pc lv (vR c :: st) μ := w_getR (dd := 8) (k := 10) (ci := 0) (c := c) ho rfl inG0 (by decide) rfl (by rw [hY]; exact fl_X0_33) hd kk
theorem fl_X0_36 : Cond.fieldLink RX0 36 "HailVotes$Canton" "size" "[I" ∈ lw_gt := gt_i 107 (by decide +kernel) rfl
theorem gf_X0_36 {g : gG} {l : Launch} {Y : gY} {d : Nat} {post : gQ} {pc : Nat} {lv : List (Option gA)} {st : List gA} {μ : gM} (hY : Y.1.cls = RX0) {c : Nat} (ho : obj c 0) (hd : decode Y.2.1 pc = .ok (.getfield 36, 3)) (kk : WA g l Y d post (pc + 3) lv (vR (c + 9) :: st) μ) : WA g l Y d post pc lv (vR c :: st) μ := w_getR (dd := 9) (k := 11) (ci := 0) (c := c) ho rfl inG0 (by decide) rfl (by rw [hY]; exact fl_X0_36) hd kk
theorem fl_X0_39 : Cond.fieldLink RX0 39 "HailVotes$Canton" "chance" "[I" ∈ lw_gt := gt_i 108 (by decide +kernel) rfl
theorem gf_X0_39 {g : gG} {l : Launch} {Y : gY} {d : Nat} {post : gQ} {pc : Nat} {lv : List (Option gA)} {st : List gA} {μ : gM} (hY : Y.1.cls = RX0) {c : Nat} (ho : obj c 0) (hd : decode Y.2.1 pc = .ok (.getfield 39, 3)) (kk : WA g l Y d post (pc + 3) lv (vR (c + 10) :: st) μ) : WA g l Y d post pc lv (vR c :: st) μ := w_getR (dd := 10) (k := 12) (ci := 0) (c := c) ho rfl inG0 (by decide) rfl (by rw [hY]; exact fl_X0_39) hd kk
theorem fl_X0_42 : Cond.fieldLink RX0 42 "HailVotes$Canton" "guns" "[I" ∈ lw_gt := gt_i 110 (by decide +kernel) rfl
theorem gf_X0_42 {g : gG} {l : Launch} {Y : gY} {d : Nat} {post : gQ} {pc : Nat} {lv : List (Option gA)} {st : List gA} {μ : gM} (hY : Y.1.cls = RX0) {c : Nat} (ho : obj c 0) (hd : decode Y.2.1 pc = .ok (.getfield 42, 3)) (kk : WA g l Y d post (pc + 3) lv (vR (c + 11) :: st) μ) : WA g l Y d post pc lv (vR c :: st) μ := w_getR (dd := 11) (k := 13) (ci := 0) (c := c) ho rfl inG0 (by decide) rfl (by rw [hY]; exact fl_X0_42) hd kk
theorem fl_X0_45 : Cond.fieldLink RX0 45 "HailVotes$Canton" "roofs" "I" ∈ lw_gt := gt_i 89 (by decide +kernel) rfl
theorem gf_X0_45 {g : gG} {l : Launch} {Y : gY} {d : Nat} {post : gQ} {pc : Nat} {lv : List (Option gA)} {st : List gA} {μ : gM} (hY : Y.1.cls = RX0) {c : Nat} (ho : obj c 0) (hd : decode Y.2.1 pc = .ok (.getfield 45, 3)) (kk : WA g l Y d post (pc + 3) lv (vI (μ c 0) :: st) μ) : WA g l Y d post pc lv (vR c :: st) μ := w_getI 0 (k := 0) (ci := 0) (c := c) ho rfl inG0 (by decide) rfl rfl (by rw [hY]; exact fl_X0_45) hd kk
theorem pf_X0_45 {g : gG} {l : Launch} {Y : gY} {d : Nat} {post : gQ} {pc : Nat} {lv : List (Option gA)} {st : List gA} {μ : gM} (hY : Y.1.cls = RX0) {c : Nat} (ho : obj c 0) {v : Int} (hd : decode Y.2.1 pc = .ok (.putfield 45, 3)) (kk : WA g l Y d post (pc + 3) lv st (wr μ c 0 v)) : WA g l Y d post pc lv (vI v :: vR c :: st) μ := w_putI 0 (k := 0) (ci := 0) (c := c) (tyf := tyX0) ho rfl inG0 tyX0_ok nmX0 (by decide) rfl rfl (Or.inl rfl) rfl (by rw [hY]; exact fl_X0_45) hd kk
theorem fl_X0_49 : Cond.fieldLink RX0 49 "HailVotes$Canton" "storms" "I" ∈ lw_gt := gt_i 91 (by decide +kernel) rfl
theorem gf_X0_49 {g : gG} {l : Launch} {Y : gY} {d : Nat} {post : gQ} {pc : Nat} {lv : List (Option gA)} {st : List gA} {μ : gM} (hY : Y.1.cls = RX0) {c : Nat} (ho : obj c 0) (hd : decode Y.2.1 pc = .ok (.getfield 49, 3)) (kk : WA g l Y d post (pc + 3) lv (vI (μ c 1) :: st) μ) : WA g l Y d post pc lv (vR c :: st) μ := w_getI 1 (k := 1) (ci := 0) (c := c) ho rfl inG0 (by decide) rfl rfl (by rw [hY]; exact fl_X0_49) hd kk
theorem pf_X0_49 {g : gG} {l : Launch} {Y : gY} {d : Nat} {post : gQ} {pc : Nat} {lv : List (Option gA)} {st : List gA} {μ : gM} (hY : Y.1.cls = RX0) {c : Nat} (ho : obj c 0) {v : Int} (hd : decode Y.2.1 pc = .ok (.putfield 49, 3)) (kk : WA g l Y d post (pc + 3) lv st (wr μ c 1 v)) : WA g l Y d post pc lv (vI v :: vR c :: st) μ := w_putI 1 (k := 1) (ci := 0) (c := c) (tyf := tyX0) ho rfl inG0 tyX0_ok nmX0 (by decide) rfl rfl (Or.inl rfl) rfl (by rw [hY]; exact fl_X0_49) hd kk
theorem fl_X0_52 : Cond.fieldLink RX0 52 "HailVotes$Canton" "years" "I" ∈ lw_gt := gt_i 94 (by decide +kernel) rfl
theorem gf_X0_52 {g : gG} {l : Launch} {Y : gY} {d : Nat} {post : gQ} {pc : Nat} {lv : List (Option gA)} {st : List gA} {μ : gM} (hY : Y.1.cls = RX0) {c : Nat} (ho : obj c 0) (hd : decode Y.2.1 pc = .ok (.getfield 52, 3)) (kk : WA g l Y d post (pc + 3) lv (vI (μ c 2) :: st) μ) : WA g l Y d post pc lv (vR c :: st) μ := w_getI 2 (k := 2) (ci := 0) (c := c) ho rfl inG0 (by decide) rfl rfl (by rw [hY]; exact fl_X0_52) hd kk
theorem pf_X0_52 {g : gG} {l : Launch} {Y : gY} {d : Nat} {post : gQ} {pc : Nat} {lv : List (Option gA)} {st : List gA} {μ : gM} (hY : Y.1.cls = RX0) {c : Nat} (ho : obj c 0) {v : Int} (hd : decode Y.2.1 pc = .ok (.putfield 52, 3)) (kk : WA g l Y d post (pc + 3) lv st (wr μ c 2 v)) : WA g l Y d post pc lv (vI v :: vR c :: st) μ := w_putI 2 (k := 2) (ci := 0) (c := c) (tyf := tyX0) ho rfl inG0 tyX0_ok nmX0 (by decide) rfl rfl (Or.inl rfl) rfl (by rw [hY]; exact fl_X0_52) hd kk
theorem fl_X0_9 : Cond.fieldLink RX0 9 "HailVotes$Canton" "kind" "[I" ∈ lw_gt := gt_i 96 (by decide +kernel) rfl
theorem gf_X0_9 {g : gG} {l : Launch} {Y : gY} {d : Nat} {post : gQ} {pc : Nat} {lv : List (Option gA)} {st : List gA} {μ : gM} (hY : Y.1.cls = RX0) {c : Nat} (ho : obj c 0) (hd : decode Y.2.1 pc = .ok (.getfield 9, 3)) (kk : WA g l Y d post (pc + 3) lv (vR (c + 1) :: st) μ) : WA g l Y d post pc lv (vR c :: st) μ := w_getR (dd := 1) (k := 3) (ci := 0) (c := c) ho rfl inG0 (by decide) rfl (by rw [hY]; exact fl_X0_9) hd kk
theorem fl_X1_13 : Cond.fieldLink RX1 13 "HailVotes$Fraction" "below" "J" ∈ lw_gt := gt_i 193 (by decide +kernel) rfl
theorem gf_X1_13 {g : gG} {l : Launch} {Y : gY} {d : Nat} {post : gQ} {pc : Nat} {lv : List (Option gA)} {st : List gA} {μ : gM} (hY : Y.1.cls = RX1) (hd : decode Y.2.1 pc = .ok (.getfield 13, 3)) (kk : WA g l Y d post (pc + 3) lv (vL (μ 154 1) :: st) μ) : WA g l Y d post pc lv (vR 154 :: st) μ := w_getL 1 (k := 1) (ci := 1) (c := 154) (show obj 154 1 from ⟨by decide, by decide, by decide⟩) rfl inG1 (by decide) rfl rfl (by rw [hY]; exact fl_X1_13) hd kk
theorem pf_X1_13 {g : gG} {l : Launch} {Y : gY} {d : Nat} {post : gQ} {pc : Nat} {lv : List (Option gA)} {st : List gA} {μ : gM} (hY : Y.1.cls = RX1) {v : Int} (hd : decode Y.2.1 pc = .ok (.putfield 13, 3)) (kk : WA g l Y d post (pc + 3) lv st (wr μ 154 1 v)) : WA g l Y d post pc lv (vL v :: vR 154 :: st) μ := w_putL 1 (k := 1) (ci := 1) (c := 154) (tyf := tyX1) (show obj 154 1 from ⟨by decide, by decide, by decide⟩) rfl inG1 tyX1_ok nmX1 (by decide) rfl rfl rfl rfl (by rw [hY]; exact fl_X1_13) hd kk
theorem fl_X1_7 : Cond.fieldLink RX1 7 "HailVotes$Fraction" "above" "J" ∈ lw_gt := gt_i 191 (by decide +kernel) rfl
theorem gf_X1_7 {g : gG} {l : Launch} {Y : gY} {d : Nat} {post : gQ} {pc : Nat} {lv : List (Option gA)} {st : List gA} {μ : gM} (hY : Y.1.cls = RX1) (hd : decode Y.2.1 pc = .ok (.getfield 7, 3)) (kk : WA g l Y d post (pc + 3) lv (vL (μ 154 0) :: st) μ) : WA g l Y d post pc lv (vR 154 :: st) μ := w_getL 0 (k := 0) (ci := 1) (c := 154) (show obj 154 1 from ⟨by decide, by decide, by decide⟩) rfl inG1 (by decide) rfl rfl (by rw [hY]; exact fl_X1_7) hd kk
theorem pf_X1_7 {g : gG} {l : Launch} {Y : gY} {d : Nat} {post : gQ} {pc : Nat} {lv : List (Option gA)} {st : List gA} {μ : gM} (hY : Y.1.cls = RX1) {v : Int} (hd : decode Y.2.1 pc = .ok (.putfield 7, 3)) (kk : WA g l Y d post (pc + 3) lv st (wr μ 154 0 v)) : WA g l Y d post pc lv (vL v :: vR 154 :: st) μ := w_putL 0 (k := 0) (ci := 1) (c := 154) (tyf := tyX1) (show obj 154 1 from ⟨by decide, by decide, by decide⟩) rfl inG1 tyX1_ok nmX1 (by decide) rfl rfl rfl rfl (by rw [hY]; exact fl_X1_7) hd kk
theorem fl_X2_15 : Cond.fieldLink RX2 15 "HailVotes$Reader" "numbers" "[I" ∈ lw_gt := gt_i 168 (by decide +kernel) rfl
theorem gf_X2_15 {g : gG} {l : Launch} {Y : gY} {d : Nat} {post : gQ} {pc : Nat} {lv : List (Option gA)} {st : List gA} {μ : gM} (hY : Y.1.cls = RX2) (hd : decode Y.2.1 pc = .ok (.getfield 15, 3)) (kk : WA g l Y d post (pc + 3) lv (vR 153 :: st) μ) : WA g l Y d post pc lv (vR 151 :: st) μ := w_getR (dd := 2) (k := 2) (ci := 2) (c := 151) (show obj 151 2 from ⟨by decide, by decide, by decide⟩) rfl inG2 (by decide) rfl (by rw [hY]; exact fl_X2_15) hd kk
theorem fl_X2_18 : Cond.fieldLink RX2 18 "HailVotes$Reader" "length" "I" ∈ lw_gt := gt_i 165 (by decide +kernel) rfl
theorem gf_X2_18 {g : gG} {l : Launch} {Y : gY} {d : Nat} {post : gQ} {pc : Nat} {lv : List (Option gA)} {st : List gA} {μ : gM} (hY : Y.1.cls = RX2) (hd : decode Y.2.1 pc = .ok (.getfield 18, 3)) (kk : WA g l Y d post (pc + 3) lv (vI (μ 151 0) :: st) μ) : WA g l Y d post pc lv (vR 151 :: st) μ := w_getI 0 (k := 0) (ci := 2) (c := 151) (show obj 151 2 from ⟨by decide, by decide, by decide⟩) rfl inG2 (by decide) rfl rfl (by rw [hY]; exact fl_X2_18) hd kk
theorem pf_X2_18 {g : gG} {l : Launch} {Y : gY} {d : Nat} {post : gQ} {pc : Nat} {lv : List (Option gA)} {st : List gA} {μ : gM} (hY : Y.1.cls = RX2) {v : Int} (hd : decode Y.2.1 pc = .ok (.putfield 18, 3)) (kk : WA g l Y d post (pc + 3) lv st (wr μ 151 0 v)) : WA g l Y d post pc lv (vI v :: vR 151 :: st) μ := w_putI 0 (k := 0) (ci := 2) (c := 151) (tyf := tyX2) (show obj 151 2 from ⟨by decide, by decide, by decide⟩) rfl inG2 tyX2_ok nmX2 (by decide) rfl rfl (Or.inl rfl) rfl (by rw [hY]; exact fl_X2_18) hd kk
theorem fl_X2_27 : Cond.fieldLink RX2 27 "HailVotes$Reader" "tokenEnd" "I" ∈ lw_gt := gt_i 170 (by decide +kernel) rfl
theorem gf_X2_27 {g : gG} {l : Launch} {Y : gY} {d : Nat} {post : gQ} {pc : Nat} {lv : List (Option gA)} {st : List gA} {μ : gM} (hY : Y.1.cls = RX2) (hd : decode Y.2.1 pc = .ok (.getfield 27, 3)) (kk : WA g l Y d post (pc + 3) lv (vI (μ 151 4) :: st) μ) : WA g l Y d post pc lv (vR 151 :: st) μ := w_getI 4 (k := 4) (ci := 2) (c := 151) (show obj 151 2 from ⟨by decide, by decide, by decide⟩) rfl inG2 (by decide) rfl rfl (by rw [hY]; exact fl_X2_27) hd kk
theorem pf_X2_27 {g : gG} {l : Launch} {Y : gY} {d : Nat} {post : gQ} {pc : Nat} {lv : List (Option gA)} {st : List gA} {μ : gM} (hY : Y.1.cls = RX2) {v : Int} (hd : decode Y.2.1 pc = .ok (.putfield 27, 3)) (kk : WA g l Y d post (pc + 3) lv st (wr μ 151 4 v)) : WA g l Y d post pc lv (vI v :: vR 151 :: st) μ := w_putI 4 (k := 4) (ci := 2) (c := 151) (tyf := tyX2) (show obj 151 2 from ⟨by decide, by decide, by decide⟩) rfl inG2 tyX2_ok nmX2 (by decide) rfl rfl (Or.inl rfl) rfl (by rw [hY]; exact fl_X2_27) hd kk
theorem fl_X2_33 : Cond.fieldLink RX2 33 "HailVotes$Reader" "sort" "I" ∈ lw_gt := gt_i 171 (by decide +kernel) rfl
theorem gf_X2_33 {g : gG} {l : Launch} {Y : gY} {d : Nat} {post : gQ} {pc : Nat} {lv : List (Option gA)} {st : List gA} {μ : gM} (hY : Y.1.cls = RX2) (hd : decode Y.2.1 pc = .ok (.getfield 33, 3)) (kk : WA g l Y d post (pc + 3) lv (vI (μ 151 5) :: st) μ) : WA g l Y d post pc lv (vR 151 :: st) μ := w_getI 5 (k := 5) (ci := 2) (c := 151) (show obj 151 2 from ⟨by decide, by decide, by decide⟩) rfl inG2 (by decide) rfl rfl (by rw [hY]; exact fl_X2_33) hd kk
theorem pf_X2_33 {g : gG} {l : Launch} {Y : gY} {d : Nat} {post : gQ} {pc : Nat} {lv : List (Option gA)} {st : List gA} {μ : gM} (hY : Y.1.cls = RX2) {v : Int} (hd : decode Y.2.1 pc = .ok (.putfield 33, 3)) (kk : WA g l Y d post (pc + 3) lv st (wr μ 151 5 v)) : WA g l Y d post pc lv (vI v :: vR 151 :: st) μ := w_putI 5 (k := 5) (ci := 2) (c := 151) (tyf := tyX2) (show obj 151 2 from ⟨by decide, by decide, by decide⟩) rfl inG2 tyX2_ok nmX2 (by decide) rfl rfl (Or.inl rfl) rfl (by rw [hY]; exact fl_X2_33) hd kk
theorem fl_X2_40 : Cond.fieldLink RX2 40 "HailVotes$Reader" "token" "I" ∈ lw_gt := gt_i 169 (by decide +kernel) rfl
theorem gf_X2_40 {g : gG} {l : Launch} {Y : gY} {d : Nat} {post : gQ} {pc : Nat} {lv : List (Option gA)} {st : List gA} {μ : gM} (hY : Y.1.cls = RX2) (hd : decode Y.2.1 pc = .ok (.getfield 40, 3)) (kk : WA g l Y d post (pc + 3) lv (vI (μ 151 3) :: st) μ) : WA g l Y d post pc lv (vR 151 :: st) μ := w_getI 3 (k := 3) (ci := 2) (c := 151) (show obj 151 2 from ⟨by decide, by decide, by decide⟩) rfl inG2 (by decide) rfl rfl (by rw [hY]; exact fl_X2_40) hd kk
theorem pf_X2_40 {g : gG} {l : Launch} {Y : gY} {d : Nat} {post : gQ} {pc : Nat} {lv : List (Option gA)} {st : List gA} {μ : gM} (hY : Y.1.cls = RX2) {v : Int} (hd : decode Y.2.1 pc = .ok (.putfield 40, 3)) (kk : WA g l Y d post (pc + 3) lv st (wr μ 151 3 v)) : WA g l Y d post pc lv (vI v :: vR 151 :: st) μ := w_putI 3 (k := 3) (ci := 2) (c := 151) (tyf := tyX2) (show obj 151 2 from ⟨by decide, by decide, by decide⟩) rfl inG2 tyX2_ok nmX2 (by decide) rfl rfl (Or.inl rfl) rfl (by rw [hY]; exact fl_X2_40) hd kk
theorem fl_X2_49 : Cond.fieldLink RX2 49 "HailVotes$Canton" "roofs" "I" ∈ lw_gt := gt_i 90 (by decide +kernel) rfl
theorem gf_X2_49 {g : gG} {l : Launch} {Y : gY} {d : Nat} {post : gQ} {pc : Nat} {lv : List (Option gA)} {st : List gA} {μ : gM} (hY : Y.1.cls = RX2) {c : Nat} (ho : obj c 0) (hd : decode Y.2.1 pc = .ok (.getfield 49, 3)) (kk : WA g l Y d post (pc + 3) lv (vI (μ c 0) :: st) μ) : WA g l Y d post pc lv (vR c :: st) μ := w_getI 0 (k := 0) (ci := 0) (c := c) ho rfl inG0 (by decide) rfl rfl (by rw [hY]; exact fl_X2_49) hd kk
theorem pf_X2_49 {g : gG} {l : Launch} {Y : gY} {d : Nat} {post : gQ} {pc : Nat} {lv : List (Option gA)} {st : List gA} {μ : gM} (hY : Y.1.cls = RX2) {c : Nat} (ho : obj c 0) {v : Int} (hd : decode Y.2.1 pc = .ok (.putfield 49, 3)) (kk : WA g l Y d post (pc + 3) lv st (wr μ c 0 v)) : WA g l Y d post pc lv (vI v :: vR c :: st) μ := w_putI 0 (k := 0) (ci := 0) (c := c) (tyf := tyX0) ho rfl inG0 tyX0_ok nmX0 (by decide) rfl rfl (Or.inl rfl) rfl (by rw [hY]; exact fl_X2_49) hd kk
theorem fl_X2_57 : Cond.fieldLink RX2 57 "HailVotes$Canton" "storms" "I" ∈ lw_gt := gt_i 93 (by decide +kernel) rfl
theorem gf_X2_57 {g : gG} {l : Launch} {Y : gY} {d : Nat} {post : gQ} {pc : Nat} {lv : List (Option gA)} {st : List gA} {μ : gM} (hY : Y.1.cls = RX2) {c : Nat} (ho : obj c 0) (hd : decode Y.2.1 pc = .ok (.getfield 57, 3)) (kk : WA g l Y d post (pc + 3) lv (vI (μ c 1) :: st) μ) : WA g l Y d post pc lv (vR c :: st) μ := w_getI 1 (k := 1) (ci := 0) (c := c) ho rfl inG0 (by decide) rfl rfl (by rw [hY]; exact fl_X2_57) hd kk
theorem pf_X2_57 {g : gG} {l : Launch} {Y : gY} {d : Nat} {post : gQ} {pc : Nat} {lv : List (Option gA)} {st : List gA} {μ : gM} (hY : Y.1.cls = RX2) {c : Nat} (ho : obj c 0) {v : Int} (hd : decode Y.2.1 pc = .ok (.putfield 57, 3)) (kk : WA g l Y d post (pc + 3) lv st (wr μ c 1 v)) : WA g l Y d post pc lv (vI v :: vR c :: st) μ := w_putI 1 (k := 1) (ci := 0) (c := c) (tyf := tyX0) ho rfl inG0 tyX0_ok nmX0 (by decide) rfl rfl (Or.inl rfl) rfl (by rw [hY]; exact fl_X2_57) hd kk
theorem fl_X2_84 : Cond.fieldLink RX2 84 "HailVotes$Canton" "guns" "[I" ∈ lw_gt := gt_i 112 (by decide +kernel) rfl
theorem gf_X2_84 {g : gG} {l : Launch} {Y : gY} {d : Nat} {post : gQ} {pc : Nat} {lv : List (Option gA)} {st : List gA} {μ : gM} (hY : Y.1.cls = RX2) {c : Nat} (ho : obj c 0) (hd : decode Y.2.1 pc = .ok (.getfield 84, 3)) (kk : WA g l Y d post (pc + 3) lv (vR (c + 11) :: st) μ) : WA g l Y d post pc lv (vR c :: st) μ := w_getR (dd := 11) (k := 13) (ci := 0) (c := c) ho rfl inG0 (by decide) rfl (by rw [hY]; exact fl_X2_84) hd kk
theorem fl_X2_9 : Cond.fieldLink RX2 9 "HailVotes$Reader" "bytes" "[I" ∈ lw_gt := gt_i 167 (by decide +kernel) rfl
theorem gf_X2_9 {g : gG} {l : Launch} {Y : gY} {d : Nat} {post : gQ} {pc : Nat} {lv : List (Option gA)} {st : List gA} {μ : gM} (hY : Y.1.cls = RX2) (hd : decode Y.2.1 pc = .ok (.getfield 9, 3)) (kk : WA g l Y d post (pc + 3) lv (vR 152 :: st) μ) : WA g l Y d post pc lv (vR 151 :: st) μ := w_getR (dd := 1) (k := 1) (ci := 2) (c := 151) (show obj 151 2 from ⟨by decide, by decide, by decide⟩) rfl inG2 (by decide) rfl (by rw [hY]; exact fl_X2_9) hd kk
theorem fl_X3_12 : Cond.fieldLink RX3 12 "HailVotes$Story" "now" "LHailVotes$Canton;" ∈ lw_gt := gt_i 144 (by decide +kernel) rfl
theorem gf_X3_12 {g : gG} {l : Launch} {Y : gY} {d : Nat} {post : gQ} {pc : Nat} {lv : List (Option gA)} {st : List gA} {μ : gM} (hY : Y.1.cls = RX3) {c : Nat} (ho : obj c 3) (hd : decode Y.2.1 pc = .ok (.getfield 12, 3)) (kk : WA g l Y d post (pc + 3) lv (vR (c + 2) :: st) μ) : WA g l Y d post pc lv (vR c :: st) μ := w_getR (dd := 2) (k := 0) (ci := 3) (c := c) ho rfl inG3 (by decide) rfl (by rw [hY]; exact fl_X3_12) hd kk
theorem fl_X3_18 : Cond.fieldLink RX3 18 "HailVotes$Story" "past" "[LHailVotes$Canton;" ∈ lw_gt := gt_i 149 (by decide +kernel) rfl
theorem gf_X3_18 {g : gG} {l : Launch} {Y : gY} {d : Nat} {post : gQ} {pc : Nat} {lv : List (Option gA)} {st : List gA} {μ : gM} (hY : Y.1.cls = RX3) {c : Nat} (ho : obj c 3) (hd : decode Y.2.1 pc = .ok (.getfield 18, 3)) (kk : WA g l Y d post (pc + 3) lv (vR (c + 1) :: st) μ) : WA g l Y d post pc lv (vR c :: st) μ := w_getR (dd := 1) (k := 3) (ci := 3) (c := c) ho rfl inG3 (by decide) rfl (by rw [hY]; exact fl_X3_18) hd kk
theorem fl_X3_22 : Cond.fieldLink RX3 22 "HailVotes$Story" "undoable" "I" ∈ lw_gt := gt_i 146 (by decide +kernel) rfl
theorem gf_X3_22 {g : gG} {l : Launch} {Y : gY} {d : Nat} {post : gQ} {pc : Nat} {lv : List (Option gA)} {st : List gA} {μ : gM} (hY : Y.1.cls = RX3) {c : Nat} (ho : obj c 3) (hd : decode Y.2.1 pc = .ok (.getfield 22, 3)) (kk : WA g l Y d post (pc + 3) lv (vI (μ c 1) :: st) μ) : WA g l Y d post pc lv (vR c :: st) μ := w_getI 1 (k := 1) (ci := 3) (c := c) ho rfl inG3 (by decide) rfl rfl (by rw [hY]; exact fl_X3_22) hd kk
theorem pf_X3_22 {g : gG} {l : Launch} {Y : gY} {d : Nat} {post : gQ} {pc : Nat} {lv : List (Option gA)} {st : List gA} {μ : gM} (hY : Y.1.cls = RX3) {c : Nat} (ho : obj c 3) {v : Int} (hd : decode Y.2.1 pc = .ok (.putfield 22, 3)) (kk : WA g l Y d post (pc + 3) lv st (wr μ c 1 v)) : WA g l Y d post pc lv (vI v :: vR c :: st) μ := w_putI 1 (k := 1) (ci := 3) (c := c) (tyf := tyX3) ho rfl inG3 tyX3_ok nmX3 (by decide) rfl rfl (Or.inl rfl) rfl (by rw [hY]; exact fl_X3_22) hd kk
theorem fl_X4_10 : Cond.fieldLink RX4 10 "HailVotes" "story" "LHailVotes$Story;" ∈ lw_gt := gt_i 202 (by decide +kernel) rfl
theorem gf_X4_10 {g : gG} {l : Launch} {Y : gY} {d : Nat} {post : gQ} {pc : Nat} {lv : List (Option gA)} {st : List gA} {μ : gM} (hY : Y.1.cls = RX4) (hd : decode Y.2.1 pc = .ok (.getfield 10, 3)) (kk : WA g l Y d post (pc + 3) lv (vR 1 :: st) μ) : WA g l Y d post pc lv (vR 0 :: st) μ := w_getR (dd := 1) (k := 0) (ci := 4) (c := 0) (show obj 0 4 from ⟨by decide, by decide, by decide⟩) rfl inG4 (by decide) rfl (by rw [hY]; exact fl_X4_10) hd kk
theorem fl_X4_106 : Cond.fieldLink RX4 106 "HailVotes$Story" "undoable" "I" ∈ lw_gt := gt_i 147 (by decide +kernel) rfl
theorem gf_X4_106 {g : gG} {l : Launch} {Y : gY} {d : Nat} {post : gQ} {pc : Nat} {lv : List (Option gA)} {st : List gA} {μ : gM} (hY : Y.1.cls = RX4) {c : Nat} (ho : obj c 3) (hd : decode Y.2.1 pc = .ok (.getfield 106, 3)) (kk : WA g l Y d post (pc + 3) lv (vI (μ c 1) :: st) μ) : WA g l Y d post pc lv (vR c :: st) μ := w_getI 1 (k := 1) (ci := 3) (c := c) ho rfl inG3 (by decide) rfl rfl (by rw [hY]; exact fl_X4_106) hd kk
theorem pf_X4_106 {g : gG} {l : Launch} {Y : gY} {d : Nat} {post : gQ} {pc : Nat} {lv : List (Option gA)} {st : List gA} {μ : gM} (hY : Y.1.cls = RX4) {c : Nat} (ho : obj c 3) {v : Int} (hd : decode Y.2.1 pc = .ok (.putfield 106, 3)) (kk : WA g l Y d post (pc + 3) lv st (wr μ c 1 v)) : WA g l Y d post pc lv (vI v :: vR c :: st) μ := w_putI 1 (k := 1) (ci := 3) (c := c) (tyf := tyX3) ho rfl inG3 tyX3_ok nmX3 (by decide) rfl rfl (Or.inl rfl) rfl (by rw [hY]; exact fl_X4_106) hd kk
theorem fl_X4_147 : Cond.fieldLink RX4 147 "HailVotes$Canton" "chance" "[I" ∈ lw_gt := gt_i 109 (by decide +kernel) rfl
theorem gf_X4_147 {g : gG} {l : Launch} {Y : gY} {d : Nat} {post : gQ} {pc : Nat} {lv : List (Option gA)} {st : List gA} {μ : gM} (hY : Y.1.cls = RX4) {c : Nat} (ho : obj c 0) (hd : decode Y.2.1 pc = .ok (.getfield 147, 3)) (kk : WA g l Y d post (pc + 3) lv (vR (c + 10) :: st) μ) : WA g l Y d post pc lv (vR c :: st) μ := w_getR (dd := 10) (k := 12) (ci := 0) (c := c) ho rfl inG0 (by decide) rfl (by rw [hY]; exact fl_X4_147) hd kk
theorem fl_X4_153 : Cond.fieldLink RX4 153 "HailVotes$Canton" "blueShards" "[I" ∈ lw_gt := gt_i 101 (by decide +kernel) rfl
theorem gf_X4_153 {g : gG} {l : Launch} {Y : gY} {d : Nat} {post : gQ} {pc : Nat} {lv : List (Option gA)} {st : List gA} {μ : gM} (hY : Y.1.cls = RX4) {c : Nat} (ho : obj c 0) (hd : decode Y.2.1 pc = .ok (.getfield 153, 3)) (kk : WA g l Y d post (pc + 3) lv (vR (c + 4) :: st) μ) : WA g l Y d post pc lv (vR c :: st) μ := w_getR (dd := 4) (k := 6) (ci := 0) (c := c) ho rfl inG0 (by decide) rfl (by rw [hY]; exact fl_X4_153) hd kk
theorem fl_X4_156 : Cond.fieldLink RX4 156 "HailVotes$Canton" "brownShards" "[I" ∈ lw_gt := gt_i 103 (by decide +kernel) rfl
theorem gf_X4_156 {g : gG} {l : Launch} {Y : gY} {d : Nat} {post : gQ} {pc : Nat} {lv : List (Option gA)} {st : List gA} {μ : gM} (hY : Y.1.cls = RX4) {c : Nat} (ho : obj c 0) (hd : decode Y.2.1 pc = .ok (.getfield 156, 3)) (kk : WA g l Y d post (pc + 3) lv (vR (c + 5) :: st) μ) : WA g l Y d post pc lv (vR c :: st) μ := w_getR (dd := 5) (k := 7) (ci := 0) (c := c) ho rfl inG0 (by decide) rfl (by rw [hY]; exact fl_X4_156) hd kk
theorem fl_X4_16 : Cond.fieldLink RX4 16 "HailVotes" "firstImage" "LHailVotes$Story;" ∈ lw_gt := gt_i 203 (by decide +kernel) rfl
theorem gf_X4_16 {g : gG} {l : Launch} {Y : gY} {d : Nat} {post : gQ} {pc : Nat} {lv : List (Option gA)} {st : List gA} {μ : gM} (hY : Y.1.cls = RX4) (hd : decode Y.2.1 pc = .ok (.getfield 16, 3)) (kk : WA g l Y d post (pc + 3) lv (vR 51 :: st) μ) : WA g l Y d post pc lv (vR 0 :: st) μ := w_getR (dd := 51) (k := 1) (ci := 4) (c := 0) (show obj 0 4 from ⟨by decide, by decide, by decide⟩) rfl inG4 (by decide) rfl (by rw [hY]; exact fl_X4_16) hd kk
theorem fl_X4_19 : Cond.fieldLink RX4 19 "HailVotes" "secondImage" "LHailVotes$Story;" ∈ lw_gt := gt_i 204 (by decide +kernel) rfl
theorem gf_X4_19 {g : gG} {l : Launch} {Y : gY} {d : Nat} {post : gQ} {pc : Nat} {lv : List (Option gA)} {st : List gA} {μ : gM} (hY : Y.1.cls = RX4) (hd : decode Y.2.1 pc = .ok (.getfield 19, 3)) (kk : WA g l Y d post (pc + 3) lv (vR 101 :: st) μ) : WA g l Y d post pc lv (vR 0 :: st) μ := w_getR (dd := 101) (k := 2) (ci := 4) (c := 0) (show obj 0 4 from ⟨by decide, by decide, by decide⟩) rfl inG4 (by decide) rfl (by rw [hY]; exact fl_X4_19) hd kk
theorem fl_X4_202 : Cond.fieldLink RX4 202 "HailVotes$Fraction" "above" "J" ∈ lw_gt := gt_i 192 (by decide +kernel) rfl
theorem gf_X4_202 {g : gG} {l : Launch} {Y : gY} {d : Nat} {post : gQ} {pc : Nat} {lv : List (Option gA)} {st : List gA} {μ : gM} (hY : Y.1.cls = RX4) (hd : decode Y.2.1 pc = .ok (.getfield 202, 3)) (kk : WA g l Y d post (pc + 3) lv (vL (μ 154 0) :: st) μ) : WA g l Y d post pc lv (vR 154 :: st) μ := w_getL 0 (k := 0) (ci := 1) (c := 154) (show obj 154 1 from ⟨by decide, by decide, by decide⟩) rfl inG1 (by decide) rfl rfl (by rw [hY]; exact fl_X4_202) hd kk
theorem pf_X4_202 {g : gG} {l : Launch} {Y : gY} {d : Nat} {post : gQ} {pc : Nat} {lv : List (Option gA)} {st : List gA} {μ : gM} (hY : Y.1.cls = RX4) {v : Int} (hd : decode Y.2.1 pc = .ok (.putfield 202, 3)) (kk : WA g l Y d post (pc + 3) lv st (wr μ 154 0 v)) : WA g l Y d post pc lv (vL v :: vR 154 :: st) μ := w_putL 0 (k := 0) (ci := 1) (c := 154) (tyf := tyX1) (show obj 154 1 from ⟨by decide, by decide, by decide⟩) rfl inG1 tyX1_ok nmX1 (by decide) rfl rfl rfl rfl (by rw [hY]; exact fl_X4_202) hd kk
theorem fl_X4_206 : Cond.fieldLink RX4 206 "HailVotes$Fraction" "below" "J" ∈ lw_gt := gt_i 194 (by decide +kernel) rfl
theorem gf_X4_206 {g : gG} {l : Launch} {Y : gY} {d : Nat} {post : gQ} {pc : Nat} {lv : List (Option gA)} {st : List gA} {μ : gM} (hY : Y.1.cls = RX4) (hd : decode Y.2.1 pc = .ok (.getfield 206, 3)) (kk : WA g l Y d post (pc + 3) lv (vL (μ 154 1) :: st) μ) : WA g l Y d post pc lv (vR 154 :: st) μ := w_getL 1 (k := 1) (ci := 1) (c := 154) (show obj 154 1 from ⟨by decide, by decide, by decide⟩) rfl inG1 (by decide) rfl rfl (by rw [hY]; exact fl_X4_206) hd kk
theorem pf_X4_206 {g : gG} {l : Launch} {Y : gY} {d : Nat} {post : gQ} {pc : Nat} {lv : List (Option gA)} {st : List gA} {μ : gM} (hY : Y.1.cls = RX4) {v : Int} (hd : decode Y.2.1 pc = .ok (.putfield 206, 3)) (kk : WA g l Y d post (pc + 3) lv st (wr μ 154 1 v)) : WA g l Y d post pc lv (vL v :: vR 154 :: st) μ := w_putL 1 (k := 1) (ci := 1) (c := 154) (tyf := tyX1) (show obj 154 1 from ⟨by decide, by decide, by decide⟩) rfl inG1 tyX1_ok nmX1 (by decide) rfl rfl rfl rfl (by rw [hY]; exact fl_X4_206) hd kk
theorem fl_X4_212 : Cond.fieldLink RX4 212 "HailVotes$Story" "isKept" "Z" ∈ lw_gt := gt_i 148 (by decide +kernel) rfl
theorem gf_X4_212 {g : gG} {l : Launch} {Y : gY} {d : Nat} {post : gQ} {pc : Nat} {lv : List (Option gA)} {st : List gA} {μ : gM} (hY : Y.1.cls = RX4) {c : Nat} (ho : obj c 3) (hd : decode Y.2.1 pc = .ok (.getfield 212, 3)) (kk : WA g l Y d post (pc + 3) lv (vI (μ c 2) :: st) μ) : WA g l Y d post pc lv (vR c :: st) μ := w_getI 2 (k := 2) (ci := 3) (c := c) ho rfl inG3 (by decide) rfl rfl (by rw [hY]; exact fl_X4_212) hd kk
theorem pf_X4_212 {g : gG} {l : Launch} {Y : gY} {d : Nat} {post : gQ} {pc : Nat} {lv : List (Option gA)} {st : List gA} {μ : gM} (hY : Y.1.cls = RX4) {c : Nat} (ho : obj c 3) {v : Int} (hz : v = 0 ∨ v = 1) (hd : decode Y.2.1 pc = .ok (.putfield 212, 3)) (kk : WA g l Y d post (pc + 3) lv st (wr μ c 2 v)) : WA g l Y d post pc lv (vI v :: vR c :: st) μ := w_putI 2 (k := 2) (ci := 3) (c := c) (tyf := tyX3) ho rfl inG3 tyX3_ok nmX3 (by decide) rfl rfl (Or.inr ⟨rfl, hz⟩) rfl (by rw [hY]; exact fl_X4_212) hd kk
theorem fl_X4_216 : Cond.fieldLink RX4 216 "HailVotes" "bads" "I" ∈ lw_gt := gt_i 208 (by decide +kernel) rfl
theorem gf_X4_216 {g : gG} {l : Launch} {Y : gY} {d : Nat} {post : gQ} {pc : Nat} {lv : List (Option gA)} {st : List gA} {μ : gM} (hY : Y.1.cls = RX4) (hd : decode Y.2.1 pc = .ok (.getfield 216, 3)) (kk : WA g l Y d post (pc + 3) lv (vI (μ 0 6) :: st) μ) : WA g l Y d post pc lv (vR 0 :: st) μ := w_getI 6 (k := 6) (ci := 4) (c := 0) (show obj 0 4 from ⟨by decide, by decide, by decide⟩) rfl inG4 (by decide) rfl rfl (by rw [hY]; exact fl_X4_216) hd kk
theorem pf_X4_216 {g : gG} {l : Launch} {Y : gY} {d : Nat} {post : gQ} {pc : Nat} {lv : List (Option gA)} {st : List gA} {μ : gM} (hY : Y.1.cls = RX4) {v : Int} (hd : decode Y.2.1 pc = .ok (.putfield 216, 3)) (kk : WA g l Y d post (pc + 3) lv st (wr μ 0 6 v)) : WA g l Y d post pc lv (vI v :: vR 0 :: st) μ := w_putI 6 (k := 6) (ci := 4) (c := 0) (tyf := tyX4) (show obj 0 4 from ⟨by decide, by decide, by decide⟩) rfl inG4 tyX4_ok nmX4 (by decide) rfl rfl (Or.inl rfl) rfl (by rw [hY]; exact fl_X4_216) hd kk
theorem fl_X4_219 : Cond.fieldLink RX4 219 "HailVotes" "noes" "I" ∈ lw_gt := gt_i 209 (by decide +kernel) rfl
theorem gf_X4_219 {g : gG} {l : Launch} {Y : gY} {d : Nat} {post : gQ} {pc : Nat} {lv : List (Option gA)} {st : List gA} {μ : gM} (hY : Y.1.cls = RX4) (hd : decode Y.2.1 pc = .ok (.getfield 219, 3)) (kk : WA g l Y d post (pc + 3) lv (vI (μ 0 7) :: st) μ) : WA g l Y d post pc lv (vR 0 :: st) μ := w_getI 7 (k := 7) (ci := 4) (c := 0) (show obj 0 4 from ⟨by decide, by decide, by decide⟩) rfl inG4 (by decide) rfl rfl (by rw [hY]; exact fl_X4_219) hd kk
theorem pf_X4_219 {g : gG} {l : Launch} {Y : gY} {d : Nat} {post : gQ} {pc : Nat} {lv : List (Option gA)} {st : List gA} {μ : gM} (hY : Y.1.cls = RX4) {v : Int} (hd : decode Y.2.1 pc = .ok (.putfield 219, 3)) (kk : WA g l Y d post (pc + 3) lv st (wr μ 0 7 v)) : WA g l Y d post pc lv (vI v :: vR 0 :: st) μ := w_putI 7 (k := 7) (ci := 4) (c := 0) (tyf := tyX4) (show obj 0 4 from ⟨by decide, by decide, by decide⟩) rfl inG4 tyX4_ok nmX4 (by decide) rfl rfl (Or.inl rfl) rfl (by rw [hY]; exact fl_X4_219) hd kk
theorem fl_X4_222 : Cond.fieldLink RX4 222 "HailVotes" "fulls" "I" ∈ lw_gt := gt_i 210 (by decide +kernel) rfl
theorem gf_X4_222 {g : gG} {l : Launch} {Y : gY} {d : Nat} {post : gQ} {pc : Nat} {lv : List (Option gA)} {st : List gA} {μ : gM} (hY : Y.1.cls = RX4) (hd : decode Y.2.1 pc = .ok (.getfield 222, 3)) (kk : WA g l Y d post (pc + 3) lv (vI (μ 0 8) :: st) μ) : WA g l Y d post pc lv (vR 0 :: st) μ := w_getI 8 (k := 8) (ci := 4) (c := 0) (show obj 0 4 from ⟨by decide, by decide, by decide⟩) rfl inG4 (by decide) rfl rfl (by rw [hY]; exact fl_X4_222) hd kk
theorem pf_X4_222 {g : gG} {l : Launch} {Y : gY} {d : Nat} {post : gQ} {pc : Nat} {lv : List (Option gA)} {st : List gA} {μ : gM} (hY : Y.1.cls = RX4) {v : Int} (hd : decode Y.2.1 pc = .ok (.putfield 222, 3)) (kk : WA g l Y d post (pc + 3) lv st (wr μ 0 8 v)) : WA g l Y d post pc lv (vI v :: vR 0 :: st) μ := w_putI 8 (k := 8) (ci := 4) (c := 0) (tyf := tyX4) (show obj 0 4 from ⟨by decide, by decide, by decide⟩) rfl inG4 tyX4_ok nmX4 (by decide) rfl rfl (Or.inl rfl) rfl (by rw [hY]; exact fl_X4_222) hd kk
theorem fl_X4_228 : Cond.fieldLink RX4 228 "HailVotes$Canton" "years" "I" ∈ lw_gt := gt_i 95 (by decide +kernel) rfl
theorem gf_X4_228 {g : gG} {l : Launch} {Y : gY} {d : Nat} {post : gQ} {pc : Nat} {lv : List (Option gA)} {st : List gA} {μ : gM} (hY : Y.1.cls = RX4) {c : Nat} (ho : obj c 0) (hd : decode Y.2.1 pc = .ok (.getfield 228, 3)) (kk : WA g l Y d post (pc + 3) lv (vI (μ c 2) :: st) μ) : WA g l Y d post pc lv (vR c :: st) μ := w_getI 2 (k := 2) (ci := 0) (c := c) ho rfl inG0 (by decide) rfl rfl (by rw [hY]; exact fl_X4_228) hd kk
theorem pf_X4_228 {g : gG} {l : Launch} {Y : gY} {d : Nat} {post : gQ} {pc : Nat} {lv : List (Option gA)} {st : List gA} {μ : gM} (hY : Y.1.cls = RX4) {c : Nat} (ho : obj c 0) {v : Int} (hd : decode Y.2.1 pc = .ok (.putfield 228, 3)) (kk : WA g l Y d post (pc + 3) lv st (wr μ c 2 v)) : WA g l Y d post pc lv (vI v :: vR c :: st) μ := w_putI 2 (k := 2) (ci := 0) (c := c) (tyf := tyX0) ho rfl inG0 tyX0_ok nmX0 (by decide) rfl rfl (Or.inl rfl) rfl (by rw [hY]; exact fl_X4_228) hd kk
theorem fl_X4_25 : Cond.fieldLink RX4 25 "HailVotes" "text" "LHailVotes$Reader;" ∈ lw_gt := gt_i 205 (by decide +kernel) rfl
theorem gf_X4_25 {g : gG} {l : Launch} {Y : gY} {d : Nat} {post : gQ} {pc : Nat} {lv : List (Option gA)} {st : List gA} {μ : gM} (hY : Y.1.cls = RX4) (hd : decode Y.2.1 pc = .ok (.getfield 25, 3)) (kk : WA g l Y d post (pc + 3) lv (vR 151 :: st) μ) : WA g l Y d post pc lv (vR 0 :: st) μ := w_getR (dd := 151) (k := 3) (ci := 4) (c := 0) (show obj 0 4 from ⟨by decide, by decide, by decide⟩) rfl inG4 (by decide) rfl (by rw [hY]; exact fl_X4_25) hd kk
theorem fl_X4_32 : Cond.fieldLink RX4 32 "HailVotes" "fraction" "LHailVotes$Fraction;" ∈ lw_gt := gt_i 206 (by decide +kernel) rfl
theorem gf_X4_32 {g : gG} {l : Launch} {Y : gY} {d : Nat} {post : gQ} {pc : Nat} {lv : List (Option gA)} {st : List gA} {μ : gM} (hY : Y.1.cls = RX4) (hd : decode Y.2.1 pc = .ok (.getfield 32, 3)) (kk : WA g l Y d post (pc + 3) lv (vR 154 :: st) μ) : WA g l Y d post pc lv (vR 0 :: st) μ := w_getR (dd := 154) (k := 4) (ci := 4) (c := 0) (show obj 0 4 from ⟨by decide, by decide, by decide⟩) rfl inG4 (by decide) rfl (by rw [hY]; exact fl_X4_32) hd kk
theorem fl_X4_39 : Cond.fieldLink RX4 39 "HailVotes" "trial" "LHailVotes$Canton;" ∈ lw_gt := gt_i 207 (by decide +kernel) rfl
theorem gf_X4_39 {g : gG} {l : Launch} {Y : gY} {d : Nat} {post : gQ} {pc : Nat} {lv : List (Option gA)} {st : List gA} {μ : gM} (hY : Y.1.cls = RX4) (hd : decode Y.2.1 pc = .ok (.getfield 39, 3)) (kk : WA g l Y d post (pc + 3) lv (vR 155 :: st) μ) : WA g l Y d post pc lv (vR 0 :: st) μ := w_getR (dd := 155) (k := 5) (ci := 4) (c := 0) (show obj 0 4 from ⟨by decide, by decide, by decide⟩) rfl inG4 (by decide) rfl (by rw [hY]; exact fl_X4_39) hd kk
theorem fl_X4_55 : Cond.fieldLink RX4 55 "HailVotes$Story" "now" "LHailVotes$Canton;" ∈ lw_gt := gt_i 145 (by decide +kernel) rfl
theorem gf_X4_55 {g : gG} {l : Launch} {Y : gY} {d : Nat} {post : gQ} {pc : Nat} {lv : List (Option gA)} {st : List gA} {μ : gM} (hY : Y.1.cls = RX4) {c : Nat} (ho : obj c 3) (hd : decode Y.2.1 pc = .ok (.getfield 55, 3)) (kk : WA g l Y d post (pc + 3) lv (vR (c + 2) :: st) μ) : WA g l Y d post pc lv (vR c :: st) μ := w_getR (dd := 2) (k := 0) (ci := 3) (c := c) ho rfl inG3 (by decide) rfl (by rw [hY]; exact fl_X4_55) hd kk
theorem fl_X4_58 : Cond.fieldLink RX4 58 "HailVotes$Canton" "roofs" "I" ∈ lw_gt := gt_i 88 (by decide +kernel) rfl
theorem gf_X4_58 {g : gG} {l : Launch} {Y : gY} {d : Nat} {post : gQ} {pc : Nat} {lv : List (Option gA)} {st : List gA} {μ : gM} (hY : Y.1.cls = RX4) {c : Nat} (ho : obj c 0) (hd : decode Y.2.1 pc = .ok (.getfield 58, 3)) (kk : WA g l Y d post (pc + 3) lv (vI (μ c 0) :: st) μ) : WA g l Y d post pc lv (vR c :: st) μ := w_getI 0 (k := 0) (ci := 0) (c := c) ho rfl inG0 (by decide) rfl rfl (by rw [hY]; exact fl_X4_58) hd kk
theorem pf_X4_58 {g : gG} {l : Launch} {Y : gY} {d : Nat} {post : gQ} {pc : Nat} {lv : List (Option gA)} {st : List gA} {μ : gM} (hY : Y.1.cls = RX4) {c : Nat} (ho : obj c 0) {v : Int} (hd : decode Y.2.1 pc = .ok (.putfield 58, 3)) (kk : WA g l Y d post (pc + 3) lv st (wr μ c 0 v)) : WA g l Y d post pc lv (vI v :: vR c :: st) μ := w_putI 0 (k := 0) (ci := 0) (c := c) (tyf := tyX0) ho rfl inG0 tyX0_ok nmX0 (by decide) rfl rfl (Or.inl rfl) rfl (by rw [hY]; exact fl_X4_58) hd kk
theorem fl_X4_66 : Cond.fieldLink RX4 66 "HailVotes$Canton" "storms" "I" ∈ lw_gt := gt_i 92 (by decide +kernel) rfl
theorem gf_X4_66 {g : gG} {l : Launch} {Y : gY} {d : Nat} {post : gQ} {pc : Nat} {lv : List (Option gA)} {st : List gA} {μ : gM} (hY : Y.1.cls = RX4) {c : Nat} (ho : obj c 0) (hd : decode Y.2.1 pc = .ok (.getfield 66, 3)) (kk : WA g l Y d post (pc + 3) lv (vI (μ c 1) :: st) μ) : WA g l Y d post pc lv (vR c :: st) μ := w_getI 1 (k := 1) (ci := 0) (c := c) ho rfl inG0 (by decide) rfl rfl (by rw [hY]; exact fl_X4_66) hd kk
theorem pf_X4_66 {g : gG} {l : Launch} {Y : gY} {d : Nat} {post : gQ} {pc : Nat} {lv : List (Option gA)} {st : List gA} {μ : gM} (hY : Y.1.cls = RX4) {c : Nat} (ho : obj c 0) {v : Int} (hd : decode Y.2.1 pc = .ok (.putfield 66, 3)) (kk : WA g l Y d post (pc + 3) lv st (wr μ c 1 v)) : WA g l Y d post pc lv (vI v :: vR c :: st) μ := w_putI 1 (k := 1) (ci := 0) (c := c) (tyf := tyX0) ho rfl inG0 tyX0_ok nmX0 (by decide) rfl rfl (Or.inl rfl) rfl (by rw [hY]; exact fl_X4_66) hd kk
theorem fl_X4_73 : Cond.fieldLink RX4 73 "HailVotes$Canton" "guns" "[I" ∈ lw_gt := gt_i 111 (by decide +kernel) rfl
theorem gf_X4_73 {g : gG} {l : Launch} {Y : gY} {d : Nat} {post : gQ} {pc : Nat} {lv : List (Option gA)} {st : List gA} {μ : gM} (hY : Y.1.cls = RX4) {c : Nat} (ho : obj c 0) (hd : decode Y.2.1 pc = .ok (.getfield 73, 3)) (kk : WA g l Y d post (pc + 3) lv (vR (c + 11) :: st) μ) : WA g l Y d post pc lv (vR c :: st) μ := w_getR (dd := 11) (k := 13) (ci := 0) (c := c) ho rfl inG0 (by decide) rfl (by rw [hY]; exact fl_X4_73) hd kk
theorem fl_X4_84 : Cond.fieldLink RX4 84 "HailVotes$Canton" "cover" "[I" ∈ lw_gt := gt_i 99 (by decide +kernel) rfl
theorem gf_X4_84 {g : gG} {l : Launch} {Y : gY} {d : Nat} {post : gQ} {pc : Nat} {lv : List (Option gA)} {st : List gA} {μ : gM} (hY : Y.1.cls = RX4) {c : Nat} (ho : obj c 0) (hd : decode Y.2.1 pc = .ok (.getfield 84, 3)) (kk : WA g l Y d post (pc + 3) lv (vR (c + 3) :: st) μ) : WA g l Y d post pc lv (vR c :: st) μ := w_getR (dd := 3) (k := 5) (ci := 0) (c := c) ho rfl inG0 (by decide) rfl (by rw [hY]; exact fl_X4_84) hd kk
theorem fl_X4_91 : Cond.fieldLink RX4 91 "HailVotes$Reader" "length" "I" ∈ lw_gt := gt_i 166 (by decide +kernel) rfl
theorem gf_X4_91 {g : gG} {l : Launch} {Y : gY} {d : Nat} {post : gQ} {pc : Nat} {lv : List (Option gA)} {st : List gA} {μ : gM} (hY : Y.1.cls = RX4) (hd : decode Y.2.1 pc = .ok (.getfield 91, 3)) (kk : WA g l Y d post (pc + 3) lv (vI (μ 151 0) :: st) μ) : WA g l Y d post pc lv (vR 151 :: st) μ := w_getI 0 (k := 0) (ci := 2) (c := 151) (show obj 151 2 from ⟨by decide, by decide, by decide⟩) rfl inG2 (by decide) rfl rfl (by rw [hY]; exact fl_X4_91) hd kk
theorem pf_X4_91 {g : gG} {l : Launch} {Y : gY} {d : Nat} {post : gQ} {pc : Nat} {lv : List (Option gA)} {st : List gA} {μ : gM} (hY : Y.1.cls = RX4) {v : Int} (hd : decode Y.2.1 pc = .ok (.putfield 91, 3)) (kk : WA g l Y d post (pc + 3) lv st (wr μ 151 0 v)) : WA g l Y d post pc lv (vI v :: vR 151 :: st) μ := w_putI 0 (k := 0) (ci := 2) (c := 151) (tyf := tyX2) (show obj 151 2 from ⟨by decide, by decide, by decide⟩) rfl inG2 tyX2_ok nmX2 (by decide) rfl rfl (Or.inl rfl) rfl (by rw [hY]; exact fl_X4_91) hd kk
theorem fl_X5_13 : Cond.fieldLink RX5 13 "HailVotesModel" "kept" "[I" ∈ lw_gt := gt_i 641 (by decide +kernel) rfl
theorem gf_X5_13 {g : gG} {l : Launch} {Y : gY} {d : Nat} {post : gQ} {pc : Nat} {lv : List (Option gA)} {st : List gA} {μ : gM} (hY : Y.1.cls = RX5) (hd : decode Y.2.1 pc = .ok (.getfield 13, 3)) (kk : WA g l Y d post (pc + 3) lv (vR 169 :: st) μ) : WA g l Y d post pc lv (vR 167 :: st) μ := w_getR (dd := 2) (k := 1) (ci := 5) (c := 167) (show obj 167 5 from ⟨by decide, by decide, by decide⟩) rfl inG5 (by decide) rfl (by rw [hY]; exact fl_X5_13) hd kk
theorem fl_X5_142 : Cond.fieldLink RX5 142 "HailVotesModel" "bestChance" "I" ∈ lw_gt := gt_i 650 (by decide +kernel) rfl
theorem gf_X5_142 {g : gG} {l : Launch} {Y : gY} {d : Nat} {post : gQ} {pc : Nat} {lv : List (Option gA)} {st : List gA} {μ : gM} (hY : Y.1.cls = RX5) (hd : decode Y.2.1 pc = .ok (.getfield 142, 3)) (kk : WA g l Y d post (pc + 3) lv (vI (μ 167 10) :: st) μ) : WA g l Y d post pc lv (vR 167 :: st) μ := w_getI 10 (k := 10) (ci := 5) (c := 167) (show obj 167 5 from ⟨by decide, by decide, by decide⟩) rfl inG5 (by decide) rfl rfl (by rw [hY]; exact fl_X5_142) hd kk
theorem pf_X5_142 {g : gG} {l : Launch} {Y : gY} {d : Nat} {post : gQ} {pc : Nat} {lv : List (Option gA)} {st : List gA} {μ : gM} (hY : Y.1.cls = RX5) {v : Int} (hd : decode Y.2.1 pc = .ok (.putfield 142, 3)) (kk : WA g l Y d post (pc + 3) lv st (wr μ 167 10 v)) : WA g l Y d post pc lv (vI v :: vR 167 :: st) μ := w_putI 10 (k := 10) (ci := 5) (c := 167) (tyf := tyX5) (show obj 167 5 from ⟨by decide, by decide, by decide⟩) rfl inG5 tyX5_ok nmX5 (by decide) rfl rfl (Or.inl rfl) rfl (by rw [hY]; exact fl_X5_142) hd kk
theorem fl_X5_16 : Cond.fieldLink RX5 16 "HailVotesModel" "isKept" "[Z" ∈ lw_gt := gt_i 642 (by decide +kernel) rfl
theorem gf_X5_16 {g : gG} {l : Launch} {Y : gY} {d : Nat} {post : gQ} {pc : Nat} {lv : List (Option gA)} {st : List gA} {μ : gM} (hY : Y.1.cls = RX5) (hd : decode Y.2.1 pc = .ok (.getfield 16, 3)) (kk : WA g l Y d post (pc + 3) lv (vR 170 :: st) μ) : WA g l Y d post pc lv (vR 167 :: st) μ := w_getR (dd := 3) (k := 2) (ci := 5) (c := 167) (show obj 167 5 from ⟨by decide, by decide, by decide⟩) rfl inG5 (by decide) rfl (by rw [hY]; exact fl_X5_16) hd kk
theorem fl_X5_195 : Cond.fieldLink RX5 195 "HailVotesModel" "bytesLong" "I" ∈ lw_gt := gt_i 653 (by decide +kernel) rfl
theorem gf_X5_195 {g : gG} {l : Launch} {Y : gY} {d : Nat} {post : gQ} {pc : Nat} {lv : List (Option gA)} {st : List gA} {μ : gM} (hY : Y.1.cls = RX5) (hd : decode Y.2.1 pc = .ok (.getfield 195, 3)) (kk : WA g l Y d post (pc + 3) lv (vI (μ 167 13) :: st) μ) : WA g l Y d post pc lv (vR 167 :: st) μ := w_getI 13 (k := 13) (ci := 5) (c := 167) (show obj 167 5 from ⟨by decide, by decide, by decide⟩) rfl inG5 (by decide) rfl rfl (by rw [hY]; exact fl_X5_195) hd kk
theorem pf_X5_195 {g : gG} {l : Launch} {Y : gY} {d : Nat} {post : gQ} {pc : Nat} {lv : List (Option gA)} {st : List gA} {μ : gM} (hY : Y.1.cls = RX5) {v : Int} (hd : decode Y.2.1 pc = .ok (.putfield 195, 3)) (kk : WA g l Y d post (pc + 3) lv st (wr μ 167 13 v)) : WA g l Y d post pc lv (vI v :: vR 167 :: st) μ := w_putI 13 (k := 13) (ci := 5) (c := 167) (tyf := tyX5) (show obj 167 5 from ⟨by decide, by decide, by decide⟩) rfl inG5 tyX5_ok nmX5 (by decide) rfl rfl (Or.inl rfl) rfl (by rw [hY]; exact fl_X5_195) hd kk
theorem fl_X5_20 : Cond.fieldLink RX5 20 "HailVotesModel" "refused" "[I" ∈ lw_gt := gt_i 643 (by decide +kernel) rfl
theorem gf_X5_20 {g : gG} {l : Launch} {Y : gY} {d : Nat} {post : gQ} {pc : Nat} {lv : List (Option gA)} {st : List gA} {μ : gM} (hY : Y.1.cls = RX5) (hd : decode Y.2.1 pc = .ok (.getfield 20, 3)) (kk : WA g l Y d post (pc + 3) lv (vR 171 :: st) μ) : WA g l Y d post pc lv (vR 167 :: st) μ := w_getR (dd := 4) (k := 3) (ci := 5) (c := 167) (show obj 167 5 from ⟨by decide, by decide, by decide⟩) rfl inG5 (by decide) rfl (by rw [hY]; exact fl_X5_20) hd kk
theorem fl_X5_208 : Cond.fieldLink RX5 208 "HailVotesModel" "tokenAt" "I" ∈ lw_gt := gt_i 654 (by decide +kernel) rfl
theorem gf_X5_208 {g : gG} {l : Launch} {Y : gY} {d : Nat} {post : gQ} {pc : Nat} {lv : List (Option gA)} {st : List gA} {μ : gM} (hY : Y.1.cls = RX5) (hd : decode Y.2.1 pc = .ok (.getfield 208, 3)) (kk : WA g l Y d post (pc + 3) lv (vI (μ 167 14) :: st) μ) : WA g l Y d post pc lv (vR 167 :: st) μ := w_getI 14 (k := 14) (ci := 5) (c := 167) (show obj 167 5 from ⟨by decide, by decide, by decide⟩) rfl inG5 (by decide) rfl rfl (by rw [hY]; exact fl_X5_208) hd kk
theorem pf_X5_208 {g : gG} {l : Launch} {Y : gY} {d : Nat} {post : gQ} {pc : Nat} {lv : List (Option gA)} {st : List gA} {μ : gM} (hY : Y.1.cls = RX5) {v : Int} (hd : decode Y.2.1 pc = .ok (.putfield 208, 3)) (kk : WA g l Y d post (pc + 3) lv st (wr μ 167 14 v)) : WA g l Y d post pc lv (vI v :: vR 167 :: st) μ := w_putI 14 (k := 14) (ci := 5) (c := 167) (tyf := tyX5) (show obj 167 5 from ⟨by decide, by decide, by decide⟩) rfl inG5 tyX5_ok nmX5 (by decide) rfl rfl (Or.inl rfl) rfl (by rw [hY]; exact fl_X5_208) hd kk
theorem fl_X5_211 : Cond.fieldLink RX5 211 "HailVotesModel" "tokenLong" "I" ∈ lw_gt := gt_i 655 (by decide +kernel) rfl
theorem gf_X5_211 {g : gG} {l : Launch} {Y : gY} {d : Nat} {post : gQ} {pc : Nat} {lv : List (Option gA)} {st : List gA} {μ : gM} (hY : Y.1.cls = RX5) (hd : decode Y.2.1 pc = .ok (.getfield 211, 3)) (kk : WA g l Y d post (pc + 3) lv (vI (μ 167 15) :: st) μ) : WA g l Y d post pc lv (vR 167 :: st) μ := w_getI 15 (k := 15) (ci := 5) (c := 167) (show obj 167 5 from ⟨by decide, by decide, by decide⟩) rfl inG5 (by decide) rfl rfl (by rw [hY]; exact fl_X5_211) hd kk
theorem pf_X5_211 {g : gG} {l : Launch} {Y : gY} {d : Nat} {post : gQ} {pc : Nat} {lv : List (Option gA)} {st : List gA} {μ : gM} (hY : Y.1.cls = RX5) {v : Int} (hd : decode Y.2.1 pc = .ok (.putfield 211, 3)) (kk : WA g l Y d post (pc + 3) lv st (wr μ 167 15 v)) : WA g l Y d post pc lv (vI v :: vR 167 :: st) μ := w_putI 15 (k := 15) (ci := 5) (c := 167) (tyf := tyX5) (show obj 167 5 from ⟨by decide, by decide, by decide⟩) rfl inG5 tyX5_ok nmX5 (by decide) rfl rfl (Or.inl rfl) rfl (by rw [hY]; exact fl_X5_211) hd kk
theorem fl_X5_214 : Cond.fieldLink RX5 214 "HailVotesModel" "token" "I" ∈ lw_gt := gt_i 656 (by decide +kernel) rfl
theorem gf_X5_214 {g : gG} {l : Launch} {Y : gY} {d : Nat} {post : gQ} {pc : Nat} {lv : List (Option gA)} {st : List gA} {μ : gM} (hY : Y.1.cls = RX5) (hd : decode Y.2.1 pc = .ok (.getfield 214, 3)) (kk : WA g l Y d post (pc + 3) lv (vI (μ 167 16) :: st) μ) : WA g l Y d post pc lv (vR 167 :: st) μ := w_getI 16 (k := 16) (ci := 5) (c := 167) (show obj 167 5 from ⟨by decide, by decide, by decide⟩) rfl inG5 (by decide) rfl rfl (by rw [hY]; exact fl_X5_214) hd kk
theorem pf_X5_214 {g : gG} {l : Launch} {Y : gY} {d : Nat} {post : gQ} {pc : Nat} {lv : List (Option gA)} {st : List gA} {μ : gM} (hY : Y.1.cls = RX5) {v : Int} (hd : decode Y.2.1 pc = .ok (.putfield 214, 3)) (kk : WA g l Y d post (pc + 3) lv st (wr μ 167 16 v)) : WA g l Y d post pc lv (vI v :: vR 167 :: st) μ := w_putI 16 (k := 16) (ci := 5) (c := 167) (tyf := tyX5) (show obj 167 5 from ⟨by decide, by decide, by decide⟩) rfl inG5 tyX5_ok nmX5 (by decide) rfl rfl (Or.inl rfl) rfl (by rw [hY]; exact fl_X5_214) hd kk
theorem fl_X5_217 : Cond.fieldLink RX5 217 "HailVotesModel" "value" "I" ∈ lw_gt := gt_i 657 (by decide +kernel) rfl
theorem gf_X5_217 {g : gG} {l : Launch} {Y : gY} {d : Nat} {post : gQ} {pc : Nat} {lv : List (Option gA)} {st : List gA} {μ : gM} (hY : Y.1.cls = RX5) (hd : decode Y.2.1 pc = .ok (.getfield 217, 3)) (kk : WA g l Y d post (pc + 3) lv (vI (μ 167 17) :: st) μ) : WA g l Y d post pc lv (vR 167 :: st) μ := w_getI 17 (k := 17) (ci := 5) (c := 167) (show obj 167 5 from ⟨by decide, by decide, by decide⟩) rfl inG5 (by decide) rfl rfl (by rw [hY]; exact fl_X5_217) hd kk
theorem pf_X5_217 {g : gG} {l : Launch} {Y : gY} {d : Nat} {post : gQ} {pc : Nat} {lv : List (Option gA)} {st : List gA} {μ : gM} (hY : Y.1.cls = RX5) {v : Int} (hd : decode Y.2.1 pc = .ok (.putfield 217, 3)) (kk : WA g l Y d post (pc + 3) lv st (wr μ 167 17 v)) : WA g l Y d post pc lv (vI v :: vR 167 :: st) μ := w_putI 17 (k := 17) (ci := 5) (c := 167) (tyf := tyX5) (show obj 167 5 from ⟨by decide, by decide, by decide⟩) rfl inG5 tyX5_ok nmX5 (by decide) rfl rfl (Or.inl rfl) rfl (by rw [hY]; exact fl_X5_217) hd kk
theorem fl_X5_23 : Cond.fieldLink RX5 23 "HailVotesModel" "below" "J" ∈ lw_gt := gt_i 645 (by decide +kernel) rfl
theorem gf_X5_23 {g : gG} {l : Launch} {Y : gY} {d : Nat} {post : gQ} {pc : Nat} {lv : List (Option gA)} {st : List gA} {μ : gM} (hY : Y.1.cls = RX5) (hd : decode Y.2.1 pc = .ok (.getfield 23, 3)) (kk : WA g l Y d post (pc + 3) lv (vL (μ 167 5) :: st) μ) : WA g l Y d post pc lv (vR 167 :: st) μ := w_getL 5 (k := 5) (ci := 5) (c := 167) (show obj 167 5 from ⟨by decide, by decide, by decide⟩) rfl inG5 (by decide) rfl rfl (by rw [hY]; exact fl_X5_23) hd kk
theorem pf_X5_23 {g : gG} {l : Launch} {Y : gY} {d : Nat} {post : gQ} {pc : Nat} {lv : List (Option gA)} {st : List gA} {μ : gM} (hY : Y.1.cls = RX5) {v : Int} (hd : decode Y.2.1 pc = .ok (.putfield 23, 3)) (kk : WA g l Y d post (pc + 3) lv st (wr μ 167 5 v)) : WA g l Y d post pc lv (vL v :: vR 167 :: st) μ := w_putL 5 (k := 5) (ci := 5) (c := 167) (tyf := tyX5) (show obj 167 5 from ⟨by decide, by decide, by decide⟩) rfl inG5 tyX5_ok nmX5 (by decide) rfl rfl rfl rfl (by rw [hY]; exact fl_X5_23) hd kk
theorem fl_X5_27 : Cond.fieldLink RX5 27 "HailVotesModel" "hand" "[I" ∈ lw_gt := gt_i 646 (by decide +kernel) rfl
theorem gf_X5_27 {g : gG} {l : Launch} {Y : gY} {d : Nat} {post : gQ} {pc : Nat} {lv : List (Option gA)} {st : List gA} {μ : gM} (hY : Y.1.cls = RX5) (hd : decode Y.2.1 pc = .ok (.getfield 27, 3)) (kk : WA g l Y d post (pc + 3) lv (vR 172 :: st) μ) : WA g l Y d post pc lv (vR 167 :: st) μ := w_getR (dd := 5) (k := 6) (ci := 5) (c := 167) (show obj 167 5 from ⟨by decide, by decide, by decide⟩) rfl inG5 (by decide) rfl (by rw [hY]; exact fl_X5_27) hd kk
theorem fl_X5_30 : Cond.fieldLink RX5 30 "HailVotesModel" "ages" "[I" ∈ lw_gt := gt_i 647 (by decide +kernel) rfl
theorem gf_X5_30 {g : gG} {l : Launch} {Y : gY} {d : Nat} {post : gQ} {pc : Nat} {lv : List (Option gA)} {st : List gA} {μ : gM} (hY : Y.1.cls = RX5) (hd : decode Y.2.1 pc = .ok (.getfield 30, 3)) (kk : WA g l Y d post (pc + 3) lv (vR 173 :: st) μ) : WA g l Y d post pc lv (vR 167 :: st) μ := w_getR (dd := 6) (k := 7) (ci := 5) (c := 167) (show obj 167 5 from ⟨by decide, by decide, by decide⟩) rfl inG5 (by decide) rfl (by rw [hY]; exact fl_X5_30) hd kk
theorem fl_X5_33 : Cond.fieldLink RX5 33 "HailVotesModel" "painted" "[I" ∈ lw_gt := gt_i 648 (by decide +kernel) rfl
theorem gf_X5_33 {g : gG} {l : Launch} {Y : gY} {d : Nat} {post : gQ} {pc : Nat} {lv : List (Option gA)} {st : List gA} {μ : gM} (hY : Y.1.cls = RX5) (hd : decode Y.2.1 pc = .ok (.getfield 33, 3)) (kk : WA g l Y d post (pc + 3) lv (vR 174 :: st) μ) : WA g l Y d post pc lv (vR 167 :: st) μ := w_getR (dd := 7) (k := 8) (ci := 5) (c := 167) (show obj 167 5 from ⟨by decide, by decide, by decide⟩) rfl inG5 (by decide) rfl (by rw [hY]; exact fl_X5_33) hd kk
theorem fl_X5_36 : Cond.fieldLink RX5 36 "HailVotesModel" "bestPainted" "[I" ∈ lw_gt := gt_i 649 (by decide +kernel) rfl
theorem gf_X5_36 {g : gG} {l : Launch} {Y : gY} {d : Nat} {post : gQ} {pc : Nat} {lv : List (Option gA)} {st : List gA} {μ : gM} (hY : Y.1.cls = RX5) (hd : decode Y.2.1 pc = .ok (.getfield 36, 3)) (kk : WA g l Y d post (pc + 3) lv (vR 175 :: st) μ) : WA g l Y d post pc lv (vR 167 :: st) μ := w_getR (dd := 8) (k := 9) (ci := 5) (c := 167) (show obj 167 5 from ⟨by decide, by decide, by decide⟩) rfl inG5 (by decide) rfl (by rw [hY]; exact fl_X5_36) hd kk
theorem fl_X5_39 : Cond.fieldLink RX5 39 "HailVotesModel" "decided" "[Z" ∈ lw_gt := gt_i 651 (by decide +kernel) rfl
theorem gf_X5_39 {g : gG} {l : Launch} {Y : gY} {d : Nat} {post : gQ} {pc : Nat} {lv : List (Option gA)} {st : List gA} {μ : gM} (hY : Y.1.cls = RX5) (hd : decode Y.2.1 pc = .ok (.getfield 39, 3)) (kk : WA g l Y d post (pc + 3) lv (vR 176 :: st) μ) : WA g l Y d post pc lv (vR 167 :: st) μ := w_getR (dd := 9) (k := 11) (ci := 5) (c := 167) (show obj 167 5 from ⟨by decide, by decide, by decide⟩) rfl inG5 (by decide) rfl (by rw [hY]; exact fl_X5_39) hd kk
theorem fl_X5_42 : Cond.fieldLink RX5 42 "HailVotesModel" "bytes" "[I" ∈ lw_gt := gt_i 652 (by decide +kernel) rfl
theorem gf_X5_42 {g : gG} {l : Launch} {Y : gY} {d : Nat} {post : gQ} {pc : Nat} {lv : List (Option gA)} {st : List gA} {μ : gM} (hY : Y.1.cls = RX5) (hd : decode Y.2.1 pc = .ok (.getfield 42, 3)) (kk : WA g l Y d post (pc + 3) lv (vR 177 :: st) μ) : WA g l Y d post pc lv (vR 167 :: st) μ := w_getR (dd := 10) (k := 12) (ci := 5) (c := 167) (show obj 167 5 from ⟨by decide, by decide, by decide⟩) rfl inG5 (by decide) rfl (by rw [hY]; exact fl_X5_42) hd kk
theorem fl_X5_45 : Cond.fieldLink RX5 45 "HailVotesModel" "next" "[I" ∈ lw_gt := gt_i 658 (by decide +kernel) rfl
theorem gf_X5_45 {g : gG} {l : Launch} {Y : gY} {d : Nat} {post : gQ} {pc : Nat} {lv : List (Option gA)} {st : List gA} {μ : gM} (hY : Y.1.cls = RX5) (hd : decode Y.2.1 pc = .ok (.getfield 45, 3)) (kk : WA g l Y d post (pc + 3) lv (vR 178 :: st) μ) : WA g l Y d post pc lv (vR 167 :: st) μ := w_getR (dd := 11) (k := 18) (ci := 5) (c := 167) (show obj 167 5 from ⟨by decide, by decide, by decide⟩) rfl inG5 (by decide) rfl (by rw [hY]; exact fl_X5_45) hd kk
theorem fl_X5_48 : Cond.fieldLink RX5 48 "HailVotesModel" "values" "[I" ∈ lw_gt := gt_i 659 (by decide +kernel) rfl
theorem gf_X5_48 {g : gG} {l : Launch} {Y : gY} {d : Nat} {post : gQ} {pc : Nat} {lv : List (Option gA)} {st : List gA} {μ : gM} (hY : Y.1.cls = RX5) (hd : decode Y.2.1 pc = .ok (.getfield 48, 3)) (kk : WA g l Y d post (pc + 3) lv (vR 179 :: st) μ) : WA g l Y d post pc lv (vR 167 :: st) μ := w_getR (dd := 12) (k := 19) (ci := 5) (c := 167) (show obj 167 5 from ⟨by decide, by decide, by decide⟩) rfl inG5 (by decide) rfl (by rw [hY]; exact fl_X5_48) hd kk
theorem fl_X5_51 : Cond.fieldLink RX5 51 "HailVotesModel" "above" "J" ∈ lw_gt := gt_i 644 (by decide +kernel) rfl
theorem gf_X5_51 {g : gG} {l : Launch} {Y : gY} {d : Nat} {post : gQ} {pc : Nat} {lv : List (Option gA)} {st : List gA} {μ : gM} (hY : Y.1.cls = RX5) (hd : decode Y.2.1 pc = .ok (.getfield 51, 3)) (kk : WA g l Y d post (pc + 3) lv (vL (μ 167 4) :: st) μ) : WA g l Y d post pc lv (vR 167 :: st) μ := w_getL 4 (k := 4) (ci := 5) (c := 167) (show obj 167 5 from ⟨by decide, by decide, by decide⟩) rfl inG5 (by decide) rfl rfl (by rw [hY]; exact fl_X5_51) hd kk
theorem pf_X5_51 {g : gG} {l : Launch} {Y : gY} {d : Nat} {post : gQ} {pc : Nat} {lv : List (Option gA)} {st : List gA} {μ : gM} (hY : Y.1.cls = RX5) {v : Int} (hd : decode Y.2.1 pc = .ok (.putfield 51, 3)) (kk : WA g l Y d post (pc + 3) lv st (wr μ 167 4 v)) : WA g l Y d post pc lv (vL v :: vR 167 :: st) μ := w_putL 4 (k := 4) (ci := 5) (c := 167) (tyf := tyX5) (show obj 167 5 from ⟨by decide, by decide, by decide⟩) rfl inG5 tyX5_ok nmX5 (by decide) rfl rfl rfl rfl (by rw [hY]; exact fl_X5_51) hd kk
theorem fl_X5_7 : Cond.fieldLink RX5 7 "HailVotesModel" "now" "[I" ∈ lw_gt := gt_i 640 (by decide +kernel) rfl
theorem gf_X5_7 {g : gG} {l : Launch} {Y : gY} {d : Nat} {post : gQ} {pc : Nat} {lv : List (Option gA)} {st : List gA} {μ : gM} (hY : Y.1.cls = RX5) (hd : decode Y.2.1 pc = .ok (.getfield 7, 3)) (kk : WA g l Y d post (pc + 3) lv (vR 168 :: st) μ) : WA g l Y d post pc lv (vR 167 :: st) μ := w_getR (dd := 1) (k := 0) (ci := 5) (c := 167) (show obj 167 5 from ⟨by decide, by decide, by decide⟩) rfl inG5 (by decide) rfl (by rw [hY]; exact fl_X5_7) hd kk
end
section
theorem ml_J0_1059 : Cond.methodLink RJ0 1059 yJ3_checkIndex_8e157 ∈ lw_gt := gt_i 343 (by decide +kernel) rfl
theorem ml_J0_335 : Cond.methodLink RJ0 335 yJ0_coder_7d493 ∈ lw_gt := gt_i 321 (by decide +kernel) rfl
theorem ml_J0_492 : Cond.methodLink RJ0 492 yJ0_isLatin1_aae02 ∈ lw_gt := gt_i 331 (by decide +kernel) rfl
theorem ml_J0_495 : Cond.methodLink RJ0 495 yJ1_charAt_3b067 ∈ lw_gt := gt_i 335 (by decide +kernel) rfl
theorem ml_J0_498 : Cond.methodLink RJ0 498 yJ2_charAt_3b067 ∈ lw_gt := gt_i 346 (by decide +kernel) rfl
theorem ml_J1_9 : Cond.methodLink RJ1 9 yJ0_checkIndex_df160 ∈ lw_gt := gt_i 338 (by decide +kernel) rfl
theorem ml_J2_414 : Cond.methodLink RJ2 414 yJ0_checkIndex_df160 ∈ lw_gt := gt_i 355 (by decide +kernel) rfl
theorem ml_J2_48 : Cond.methodLink RJ2 48 yJ2_length_9d52b ∈ lw_gt := gt_i 352 (by decide +kernel) rfl
theorem ml_J2_67 : Cond.methodLink RJ2 67 yJ2_checkIndex_2214a ∈ lw_gt := gt_i 349 (by decide +kernel) rfl
theorem ml_J2_71 : Cond.methodLink RJ2 71 yJ2_getChar_3b067 ∈ lw_gt := gt_i 356 (by decide +kernel) rfl
theorem ml_X0_101 : Cond.methodLink RX0 101 yX0_breaksAsTold ∈ lw_gt := gt_i 526 (by decide +kernel) rfl
theorem ml_X0_105 : Cond.methodLink RX0 105 yX0_breakSlope ∈ lw_gt := gt_i 560 (by decide +kernel) rfl
theorem ml_X0_55 : Cond.methodLink RX0 55 arraycopyName ∈ lw_gt := gt_i 393 (by decide +kernel) rfl
theorem ml_X0_61 : Cond.methodLink RX0 61 yX0_row ∈ lw_gt := gt_i 248 (by decide +kernel) rfl
theorem ml_X0_65 : Cond.methodLink RX0 65 Lib.Math.max.name ∈ lw_gt := gt_i 409 (by decide +kernel) rfl
theorem ml_X0_71 : Cond.methodLink RX0 71 yX0_forceOn ∈ lw_gt := gt_i 428 (by decide +kernel) rfl
theorem ml_X0_74 : Cond.methodLink RX0 74 yX0_toll ∈ lw_gt := gt_i 424 (by decide +kernel) rfl
theorem ml_X0_77 : Cond.methodLink RX0 77 Lib.Math.min.name ∈ lw_gt := gt_i 429 (by decide +kernel) rfl
theorem ml_X0_80 : Cond.methodLink RX0 80 yX0_brokenOf ∈ lw_gt := gt_i 420 (by decide +kernel) rfl
theorem ml_X0_83 : Cond.methodLink RX0 83 yX0_lead ∈ lw_gt := gt_i 452 (by decide +kernel) rfl
theorem ml_X0_87 : Cond.methodLink RX0 87 yX0_winnerBy ∈ lw_gt := gt_i 453 (by decide +kernel) rfl
theorem ml_X0_90 : Cond.methodLink RX0 90 yX0_chancesOf ∈ lw_gt := gt_i 509 (by decide +kernel) rfl
theorem ml_X0_93 : Cond.methodLink RX0 93 yX0_edgeOfBlue ∈ lw_gt := gt_i 488 (by decide +kernel) rfl
theorem ml_X0_97 : Cond.methodLink RX0 97 yX0_isTold ∈ lw_gt := gt_i 522 (by decide +kernel) rfl
theorem ml_X1_16 : Cond.methodLink RX1 16 Lib.MathLoose.abs_long.x ∈ lw_gt := gt_i 462 (by decide +kernel) rfl
theorem ml_X1_22 : Cond.methodLink RX1 22 yX1_greatestShared ∈ lw_gt := gt_i 465 (by decide +kernel) rfl
theorem ml_X2_22 : Cond.methodLink RX2 22 yX0_empty ∈ lw_gt := gt_i 295 (by decide +kernel) rfl
theorem ml_X2_30 : Cond.methodLink RX2 30 yX2_nextToken ∈ lw_gt := gt_i 299 (by decide +kernel) rfl
theorem ml_X2_36 : Cond.methodLink RX2 36 yX2_readItem ∈ lw_gt := gt_i 308 (by decide +kernel) rfl
theorem ml_X2_45 : Cond.methodLink RX2 45 yX2_isWord ∈ lw_gt := gt_i 313 (by decide +kernel) rfl
theorem ml_X2_52 : Cond.methodLink RX2 52 yX2_readRoof ∈ lw_gt := gt_i 365 (by decide +kernel) rfl
theorem ml_X2_60 : Cond.methodLink RX2 60 yX2_readStorm ∈ lw_gt := gt_i 379 (by decide +kernel) rfl
theorem ml_X2_65 : Cond.methodLink RX2 65 yX2_readCannon ∈ lw_gt := gt_i 385 (by decide +kernel) rfl
theorem ml_X2_68 : Cond.methodLink RX2 68 yX2_readNumber ∈ lw_gt := gt_i 369 (by decide +kernel) rfl
theorem ml_X2_72 : Cond.methodLink RX2 72 yX2_readStop ∈ lw_gt := gt_i 373 (by decide +kernel) rfl
theorem ml_X2_76 : Cond.methodLink RX2 76 yX0_addRoof ∈ lw_gt := gt_i 377 (by decide +kernel) rfl
theorem ml_X2_80 : Cond.methodLink RX2 80 yX0_addStorm ∈ lw_gt := gt_i 383 (by decide +kernel) rfl
theorem ml_X2_90 : Cond.methodLink RX2 90 yJ0_length_8abf5 ∈ lw_gt := gt_i 317 (by decide +kernel) rfl
theorem ml_X2_95 : Cond.methodLink RX2 95 yJ0_charAt_5068e ∈ lw_gt := gt_i 327 (by decide +kernel) rfl
theorem ml_X2_99 : Cond.methodLink RX2 99 yX2_endOfRun ∈ lw_gt := gt_i 303 (by decide +kernel) rfl
theorem ml_X3_26 : Cond.methodLink RX3 26 yX3_forgetOldest ∈ lw_gt := gt_i 551 (by decide +kernel) rfl
theorem ml_X3_29 : Cond.methodLink RX3 29 yX0_become ∈ lw_gt := gt_i 555 (by decide +kernel) rfl
theorem ml_X4_102 : Cond.methodLink RX4 102 yX0_become ∈ lw_gt := gt_i 389 (by decide +kernel) rfl
theorem ml_X4_109 : Cond.methodLink RX4 109 yX4_isStorm ∈ lw_gt := gt_i 401 (by decide +kernel) rfl
theorem ml_X4_112 : Cond.methodLink RX4 112 yX0_forceOn ∈ lw_gt := gt_i 405 (by decide +kernel) rfl
theorem ml_X4_115 : Cond.methodLink RX4 115 yX0_brokenInAll ∈ lw_gt := gt_i 416 (by decide +kernel) rfl
theorem ml_X4_119 : Cond.methodLink RX4 119 yX0_brokenOf ∈ lw_gt := gt_i 432 (by decide +kernel) rfl
theorem ml_X4_122 : Cond.methodLink RX4 122 yX0_lead ∈ lw_gt := gt_i 437 (by decide +kernel) rfl
theorem ml_X4_125 : Cond.methodLink RX4 125 yX0_winnerBy ∈ lw_gt := gt_i 441 (by decide +kernel) rfl
theorem ml_X4_128 : Cond.methodLink RX4 128 yX0_chancesOf ∈ lw_gt := gt_i 448 (by decide +kernel) rfl
theorem ml_X4_131 : Cond.methodLink RX4 131 yX0_allChances ∈ lw_gt := gt_i 454 (by decide +kernel) rfl
theorem ml_X4_135 : Cond.methodLink RX4 135 yX1_become ∈ lw_gt := gt_i 458 (by decide +kernel) rfl
theorem ml_X4_138 : Cond.methodLink RX4 138 yX0_edgeOfBlue ∈ lw_gt := gt_i 480 (by decide +kernel) rfl
theorem ml_X4_141 : Cond.methodLink RX4 141 yX0_keepsEdge ∈ lw_gt := gt_i 484 (by decide +kernel) rfl
theorem ml_X4_144 : Cond.methodLink RX4 144 yX0_isDecidedBy ∈ lw_gt := gt_i 493 (by decide +kernel) rfl
theorem ml_X4_150 : Cond.methodLink RX4 150 yX0_chancesWithGun ∈ lw_gt := gt_i 505 (by decide +kernel) rfl
theorem ml_X4_159 : Cond.methodLink RX4 159 yX0_stormsThatFit ∈ lw_gt := gt_i 518 (by decide +kernel) rfl
theorem ml_X4_162 : Cond.methodLink RX4 162 yX0_roofsByHand ∈ lw_gt := gt_i 530 (by decide +kernel) rfl
theorem ml_X4_165 : Cond.methodLink RX4 165 Lib.Math.max.name ∈ lw_gt := gt_i 538 (by decide +kernel) rfl
theorem ml_X4_170 : Cond.methodLink RX4 170 Lib.Math.min.name ∈ lw_gt := gt_i 539 (by decide +kernel) rfl
theorem ml_X4_173 : Cond.methodLink RX4 173 yX1_choose ∈ lw_gt := gt_i 540 (by decide +kernel) rfl
theorem ml_X4_177 : Cond.methodLink RX4 177 yX3_remember ∈ lw_gt := gt_i 547 (by decide +kernel) rfl
theorem ml_X4_180 : Cond.methodLink RX4 180 yX0_passYear ∈ lw_gt := gt_i 556 (by decide +kernel) rfl
theorem ml_X4_183 : Cond.methodLink RX4 183 yX3_goBack ∈ lw_gt := gt_i 568 (by decide +kernel) rfl
theorem ml_X4_196 : Cond.methodLink RX4 196 yX0_stormAt ∈ lw_gt := gt_i 581 (by decide +kernel) rfl
theorem ml_X4_209 : Cond.methodLink RX4 209 yX3_become ∈ lw_gt := gt_i 594 (by decide +kernel) rfl
theorem ml_X4_225 : Cond.methodLink RX4 225 yX0_allGuns ∈ lw_gt := gt_i 610 (by decide +kernel) rfl
theorem ml_X4_235 : Cond.methodLink RX4 235 yX4_count ∈ lw_gt := gt_i 620 (by decide +kernel) rfl
theorem ml_X4_238 : Cond.methodLink RX4 238 yX0_mixRoofs ∈ lw_gt := gt_i 621 (by decide +kernel) rfl
theorem ml_X4_242 : Cond.methodLink RX4 242 yX0_mixStorms ∈ lw_gt := gt_i 626 (by decide +kernel) rfl
theorem ml_X4_245 : Cond.methodLink RX4 245 yX0_mixGuns ∈ lw_gt := gt_i 630 (by decide +kernel) rfl
theorem ml_X4_43 : Cond.methodLink RX4 43 yX4_within ∈ lw_gt := gt_i 234 (by decide +kernel) rfl
theorem ml_X4_47 : Cond.methodLink RX4 47 yX4_areTiles ∈ lw_gt := gt_i 237 (by decide +kernel) rfl
theorem ml_X4_51 : Cond.methodLink RX4 51 yX4_refuse ∈ lw_gt := gt_i 240 (by decide +kernel) rfl
theorem ml_X4_62 : Cond.methodLink RX4 62 yX0_addRoof ∈ lw_gt := gt_i 244 (by decide +kernel) rfl
theorem ml_X4_69 : Cond.methodLink RX4 69 yX0_addStorm ∈ lw_gt := gt_i 255 (by decide +kernel) rfl
theorem ml_X4_77 : Cond.methodLink RX4 77 yX4_isRoof ∈ lw_gt := gt_i 267 (by decide +kernel) rfl
theorem ml_X4_81 : Cond.methodLink RX4 81 yX4_isPaint ∈ lw_gt := gt_i 271 (by decide +kernel) rfl
theorem ml_X4_87 : Cond.methodLink RX4 87 yX0_row ∈ lw_gt := gt_i 274 (by decide +kernel) rfl
theorem ml_X4_94 : Cond.methodLink RX4 94 yX2_put ∈ lw_gt := gt_i 279 (by decide +kernel) rfl
theorem ml_X4_98 : Cond.methodLink RX4 98 yX2_readInto ∈ lw_gt := gt_i 291 (by decide +kernel) rfl
theorem ml_X5_101 : Cond.methodLink RX5 101 yX5_cannonAt ∈ lw_gt := gt_i 773 (by decide +kernel) rfl
theorem ml_X5_104 : Cond.methodLink RX5 104 yX5_isStorm ∈ lw_gt := gt_i 761 (by decide +kernel) rfl
theorem ml_X5_107 : Cond.methodLink RX5 107 yX5_forceOf ∈ lw_gt := gt_i 765 (by decide +kernel) rfl
theorem ml_X5_111 : Cond.methodLink RX5 111 yX5_hits ∈ lw_gt := gt_i 797 (by decide +kernel) rfl
theorem ml_X5_114 : Cond.methodLink RX5 114 yX5_breaksOf ∈ lw_gt := gt_i 793 (by decide +kernel) rfl
theorem ml_X5_118 : Cond.methodLink RX5 118 yX5_breaksAll ∈ lw_gt := gt_i 789 (by decide +kernel) rfl
theorem ml_X5_121 : Cond.methodLink RX5 121 yX5_takeNow ∈ lw_gt := gt_i 781 (by decide +kernel) rfl
theorem ml_X5_124 : Cond.methodLink RX5 124 yX5_brokenBy ∈ lw_gt := gt_i 785 (by decide +kernel) rfl
theorem ml_X5_127 : Cond.methodLink RX5 127 yX5_winner ∈ lw_gt := gt_i 805 (by decide +kernel) rfl
theorem ml_X5_132 : Cond.methodLink RX5 132 yX5_chanceOf ∈ lw_gt := gt_i 814 (by decide +kernel) rfl
theorem ml_X5_135 : Cond.methodLink RX5 135 yX5_allChances ∈ lw_gt := gt_i 818 (by decide +kernel) rfl
theorem ml_X5_138 : Cond.methodLink RX5 138 yX5_tell ∈ lw_gt := gt_i 822 (by decide +kernel) rfl
theorem ml_X5_146 : Cond.methodLink RX5 146 yX5_brushOn ∈ lw_gt := gt_i 835 (by decide +kernel) rfl
theorem ml_X5_152 : Cond.methodLink RX5 152 yX5_findPaint ∈ lw_gt := gt_i 831 (by decide +kernel) rfl
theorem ml_X5_156 : Cond.methodLink RX5 156 yX5_leastOver ∈ lw_gt := gt_i 847 (by decide +kernel) rfl
theorem ml_X5_159 : Cond.methodLink RX5 159 yX5_findDecided ∈ lw_gt := gt_i 855 (by decide +kernel) rfl
theorem ml_X5_164 : Cond.methodLink RX5 164 yX5_isTold ∈ lw_gt := gt_i 876 (by decide +kernel) rfl
theorem ml_X5_167 : Cond.methodLink RX5 167 yX5_breaksSo ∈ lw_gt := gt_i 880 (by decide +kernel) rfl
theorem ml_X5_173 : Cond.methodLink RX5 173 yX5_choose ∈ lw_gt := gt_i 889 (by decide +kernel) rfl
theorem ml_X5_177 : Cond.methodLink RX5 177 yX5_keepYear ∈ lw_gt := gt_i 896 (by decide +kernel) rfl
theorem ml_X5_180 : Cond.methodLink RX5 180 yX5_goYear ∈ lw_gt := gt_i 900 (by decide +kernel) rfl
theorem ml_X5_220 : Cond.methodLink RX5 220 yX5_isSmall ∈ lw_gt := gt_i 935 (by decide +kernel) rfl
theorem ml_X5_223 : Cond.methodLink RX5 223 yX5_isFigure ∈ lw_gt := gt_i 940 (by decide +kernel) rfl
theorem ml_X5_226 : Cond.methodLink RX5 226 yX5_look ∈ lw_gt := gt_i 931 (by decide +kernel) rfl
theorem ml_X5_230 : Cond.methodLink RX5 230 yX5_goOn ∈ lw_gt := gt_i 957 (by decide +kernel) rfl
theorem ml_X5_233 : Cond.methodLink RX5 233 yX5_takes ∈ lw_gt := gt_i 961 (by decide +kernel) rfl
theorem ml_X5_237 : Cond.methodLink RX5 237 yX5_isWord ∈ lw_gt := gt_i 949 (by decide +kernel) rfl
theorem ml_X5_240 : Cond.methodLink RX5 240 yX5_readsRoof ∈ lw_gt := gt_i 953 (by decide +kernel) rfl
theorem ml_X5_244 : Cond.methodLink RX5 244 yX5_readsStorm ∈ lw_gt := gt_i 965 (by decide +kernel) rfl
theorem ml_X5_247 : Cond.methodLink RX5 247 yX5_readsCannon ∈ lw_gt := gt_i 969 (by decide +kernel) rfl
theorem ml_X5_250 : Cond.methodLink RX5 250 yX5_readsItem ∈ lw_gt := gt_i 945 (by decide +kernel) rfl
theorem ml_X5_253 : Cond.methodLink RX5 253 yX5_cannons ∈ lw_gt := gt_i 997 (by decide +kernel) rfl
theorem ml_X5_256 : Cond.methodLink RX5 256 yX5_counted ∈ lw_gt := gt_i 993 (by decide +kernel) rfl
theorem ml_X5_263 : Cond.methodLink RX5 263 yX5_sums ∈ lw_gt := gt_i 1007 (by decide +kernel) rfl
theorem ml_X5_54 : Cond.methodLink RX5 54 yX5_roofs ∈ lw_gt := gt_i 718 (by decide +kernel) rfl
theorem ml_X5_58 : Cond.methodLink RX5 58 yX5_in ∈ lw_gt := gt_i 710 (by decide +kernel) rfl
theorem ml_X5_62 : Cond.methodLink RX5 62 yX5_storms ∈ lw_gt := gt_i 734 (by decide +kernel) rfl
theorem ml_X5_69 : Cond.methodLink RX5 69 yX5_isRoofTold ∈ lw_gt := gt_i 706 (by decide +kernel) rfl
theorem ml_X5_73 : Cond.methodLink RX5 73 yX5_bad ∈ lw_gt := gt_i 714 (by decide +kernel) rfl
theorem ml_X5_77 : Cond.methodLink RX5 77 yX5_full ∈ lw_gt := gt_i 722 (by decide +kernel) rfl
theorem ml_X5_80 : Cond.methodLink RX5 80 yX5_layRoof ∈ lw_gt := gt_i 726 (by decide +kernel) rfl
theorem ml_X5_86 : Cond.methodLink RX5 86 yX5_layStorm ∈ lw_gt := gt_i 738 (by decide +kernel) rfl
theorem ml_X5_90 : Cond.methodLink RX5 90 yX5_no ∈ lw_gt := gt_i 745 (by decide +kernel) rfl
theorem ml_X5_93 : Cond.methodLink RX5 93 yX5_isRoof ∈ lw_gt := gt_i 753 (by decide +kernel) rfl
theorem ml_X5_97 : Cond.methodLink RX5 97 yX5_of ∈ lw_gt := gt_i 769 (by decide +kernel) rfl
theorem cl_X0_108 : Cond.constantLong RX0 108 (31) ∈ lw_gt := gt_i 625 (by decide +kernel) rfl
theorem cl_X4_188 : Cond.constantLong RX4 188 (1103515245) ∈ lw_gt := gt_i 577 (by decide +kernel) rfl
theorem cl_X4_190 : Cond.constantLong RX4 190 (12345) ∈ lw_gt := gt_i 578 (by decide +kernel) rfl
theorem cl_X4_192 : Cond.constantLong RX4 192 (2147483648) ∈ lw_gt := gt_i 579 (by decide +kernel) rfl
theorem cl_X4_194 : Cond.constantLong RX4 194 (65536) ∈ lw_gt := gt_i 580 (by decide +kernel) rfl
theorem cl_X4_200 : Cond.constantLong RX4 200 (-1000) ∈ lw_gt := gt_i 589 (by decide +kernel) rfl
theorem cl_X4_231 : Cond.constantLong RX4 231 (719) ∈ lw_gt := gt_i 618 (by decide +kernel) rfl
theorem cl_X4_233 : Cond.constantLong RX4 233 (31) ∈ lw_gt := gt_i 619 (by decide +kernel) rfl
theorem cl_X5_130 : Cond.constantLong RX5 130 (2) ∈ lw_gt := gt_i 813 (by decide +kernel) rfl
theorem cl_X5_150 : Cond.constantLong RX5 150 (4) ∈ lw_gt := gt_i 830 (by decide +kernel) rfl
theorem cl_X5_162 : Cond.constantLong RX5 162 (18) ∈ lw_gt := gt_i 871 (by decide +kernel) rfl
theorem cl_X5_171 : Cond.constantLong RX5 171 (8) ∈ lw_gt := gt_i 888 (by decide +kernel) rfl
theorem cl_X5_183 : Cond.constantLong RX5 183 (999999) ∈ lw_gt := gt_i 912 (by decide +kernel) rfl
theorem cl_X5_185 : Cond.constantLong RX5 185 (20) ∈ lw_gt := gt_i 913 (by decide +kernel) rfl
theorem cl_X5_187 : Cond.constantLong RX5 187 (1103515245) ∈ lw_gt := gt_i 914 (by decide +kernel) rfl
theorem cl_X5_189 : Cond.constantLong RX5 189 (12345) ∈ lw_gt := gt_i 915 (by decide +kernel) rfl
theorem cl_X5_191 : Cond.constantLong RX5 191 (2147483648) ∈ lw_gt := gt_i 916 (by decide +kernel) rfl
theorem cl_X5_193 : Cond.constantLong RX5 193 (65536) ∈ lw_gt := gt_i 917 (by decide +kernel) rfl
theorem cl_X5_198 : Cond.constantLong RX5 198 (255) ∈ lw_gt := gt_i 922 (by decide +kernel) rfl
theorem cl_X5_200 : Cond.constantLong RX5 200 (97) ∈ lw_gt := gt_i 938 (by decide +kernel) rfl
theorem cl_X5_202 : Cond.constantLong RX5 202 (122) ∈ lw_gt := gt_i 939 (by decide +kernel) rfl
theorem cl_X5_204 : Cond.constantLong RX5 204 (48) ∈ lw_gt := gt_i 943 (by decide +kernel) rfl
theorem cl_X5_206 : Cond.constantLong RX5 206 (57) ∈ lw_gt := gt_i 944 (by decide +kernel) rfl
theorem cl_X5_259 : Cond.constantLong RX5 259 (31) ∈ lw_gt := gt_i 1006 (by decide +kernel) rfl
theorem cl_X5_261 : Cond.constantLong RX5 261 (719) ∈ lw_gt := gt_i 1005 (by decide +kernel) rfl
theorem cl_X5_65 : Cond.constantLong RX5 65 (5) ∈ lw_gt := gt_i 709 (by decide +kernel) rfl
theorem cl_X5_67 : Cond.constantLong RX5 67 (9) ∈ lw_gt := gt_i 713 (by decide +kernel) rfl
theorem cl_X5_84 : Cond.constantLong RX5 84 (6) ∈ lw_gt := gt_i 733 (by decide +kernel) rfl
theorem ci_X4_187 : Cond.constant RX4 187 (999999) ∈ lw_gt := gt_i 576 (by decide +kernel) rfl
theorem mt_max_s : Cond.static Lib.Math.max.name ∈ lw_gt := gt_of (by decide +kernel) rfl
theorem mt_max_c : Cond.code Lib.Math.max.name Lib.Math.max.code 2 (some .int) ∈ lw_gt := gt_of (by decide +kernel) rfl
theorem mt_min_s : Cond.static Lib.Math.min.name ∈ lw_gt := gt_of (by decide +kernel) rfl
theorem mt_min_c : Cond.code Lib.Math.min.name Lib.Math.min.code 2 (some .int) ∈ lw_gt := gt_of (by decide +kernel) rfl
theorem mt_i : Cond.initialized "java/lang/Math" ∈ lw_gt := gt_of (by decide +kernel) rfl
theorem ac_n : Cond.native arraycopyName ∈ lw_gt := gt_of (by decide +kernel) rfl
theorem ac_s : Cond.static arraycopyName ∈ lw_gt := gt_of (by decide +kernel) rfl
theorem ac_i : Cond.initialized "java/lang/System" ∈ lw_gt := gt_of (by decide +kernel) rfl
abbrev YJ0_charAt_5068e : gY := (yJ0_charAt_5068e, cJ0_charAt_5068e, 2, (some .char))
theorem kJ0_charAt_5068e : kV YJ0_charAt_5068e 1 := ⟨gt_i 330 (by decide +kernel) rfl, gt_i 328 (by decide +kernel) rfl, gt_i 329 (by decide +kernel) rfl, gt_i 62 (by decide +kernel) rfl, ⟨⟨by decide, by decide, by decide +kernel⟩, by decide⟩⟩
abbrev YJ0_checkIndex_df160 : gY := (yJ0_checkIndex_df160, cJ0_checkIndex_df160, 2, none)
theorem kJ0_checkIndex_df160 : kS YJ0_checkIndex_df160 2 := ⟨gt_i 340 (by decide +kernel) rfl, gt_i 339 (by decide +kernel) rfl, gt_i 62 (by decide +kernel) rfl, ⟨⟨by decide, by decide, by decide +kernel⟩, by decide⟩⟩
abbrev YJ0_coder_7d493 : gY := (yJ0_coder_7d493, cJ0_coder_7d493, 1, (some .byte))
theorem kJ0_coder_7d493 : kV YJ0_coder_7d493 0 := ⟨gt_i 324 (by decide +kernel) rfl, gt_i 322 (by decide +kernel) rfl, gt_i 323 (by decide +kernel) rfl, gt_i 62 (by decide +kernel) rfl, ⟨⟨by decide, by decide, by decide +kernel⟩, by decide⟩⟩
abbrev YJ0_isLatin1_aae02 : gY := (yJ0_isLatin1_aae02, cJ0_isLatin1_aae02, 1, (some .boolean))
theorem kJ0_isLatin1_aae02 : kV YJ0_isLatin1_aae02 0 := ⟨gt_i 334 (by decide +kernel) rfl, gt_i 332 (by decide +kernel) rfl, gt_i 333 (by decide +kernel) rfl, gt_i 62 (by decide +kernel) rfl, ⟨⟨by decide, by decide, by decide +kernel⟩, by decide⟩⟩
abbrev YJ0_length_8abf5 : gY := (yJ0_length_8abf5, cJ0_length_8abf5, 1, (some .int))
theorem kJ0_length_8abf5 : kV YJ0_length_8abf5 0 := ⟨gt_i 320 (by decide +kernel) rfl, gt_i 318 (by decide +kernel) rfl, gt_i 319 (by decide +kernel) rfl, gt_i 62 (by decide +kernel) rfl, ⟨⟨by decide, by decide, by decide +kernel⟩, by decide⟩⟩
abbrev YJ1_charAt_3b067 : gY := (yJ1_charAt_3b067, cJ1_charAt_3b067, 2, (some .char))
theorem kJ1_charAt_3b067 : kS YJ1_charAt_3b067 2 := ⟨gt_i 337 (by decide +kernel) rfl, gt_i 336 (by decide +kernel) rfl, gt_i 63 (by decide +kernel) rfl, ⟨⟨by decide, by decide, by decide +kernel⟩, by decide⟩⟩
abbrev YJ2_charAt_3b067 : gY := (yJ2_charAt_3b067, cJ2_charAt_3b067, 2, (some .char))
theorem kJ2_charAt_3b067 : kS YJ2_charAt_3b067 2 := ⟨gt_i 348 (by decide +kernel) rfl, gt_i 347 (by decide +kernel) rfl, gt_i 65 (by decide +kernel) rfl, ⟨⟨by decide, by decide, by decide +kernel⟩, by decide⟩⟩
abbrev YJ2_checkIndex_2214a : gY := (yJ2_checkIndex_2214a, cJ2_checkIndex_2214a, 2, none)
theorem kJ2_checkIndex_2214a : kS YJ2_checkIndex_2214a 2 := ⟨gt_i 351 (by decide +kernel) rfl, gt_i 350 (by decide +kernel) rfl, gt_i 65 (by decide +kernel) rfl, ⟨⟨by decide, by decide, by decide +kernel⟩, by decide⟩⟩
abbrev YJ2_getChar_3b067 : gY := (yJ2_getChar_3b067, cJ2_getChar_3b067, 2, (some .char))
theorem kJ2_getChar_3b067 : kS YJ2_getChar_3b067 2 := ⟨gt_i 358 (by decide +kernel) rfl, gt_i 357 (by decide +kernel) rfl, gt_i 65 (by decide +kernel) rfl, ⟨⟨by decide, by decide, by decide +kernel⟩, by decide⟩⟩
abbrev YJ2_length_9d52b : gY := (yJ2_length_9d52b, cJ2_length_9d52b, 1, (some .int))
theorem kJ2_length_9d52b : kS YJ2_length_9d52b 1 := ⟨gt_i 354 (by decide +kernel) rfl, gt_i 353 (by decide +kernel) rfl, gt_i 65 (by decide +kernel) rfl, ⟨⟨by decide, by decide, by decide +kernel⟩, by decide⟩⟩
abbrev YJ3_checkIndex_8e157 : gY := (yJ3_checkIndex_8e157, cJ3_checkIndex_8e157, 3, (some .int))
theorem kJ3_checkIndex_8e157 : kS YJ3_checkIndex_8e157 3 := ⟨gt_i 345 (by decide +kernel) rfl, gt_i 344 (by decide +kernel) rfl, gt_i 64 (by decide +kernel) rfl, ⟨⟨by decide, by decide, by decide +kernel⟩, by decide⟩⟩
abbrev YJ9_abs_067f4 : gY := (yJ9_abs_067f4, cJ9_abs_067f4, 2, (some .long))
theorem kJ9_abs_067f4 : kS YJ9_abs_067f4 1 := ⟨gt_i 464 (by decide +kernel) rfl, gt_i 463 (by decide +kernel) rfl, gt_i 67 (by decide +kernel) rfl, ⟨⟨by decide, by decide, by decide +kernel⟩, by decide⟩⟩
abbrev YJ9_max_7cf53 : gY := (yJ9_max_7cf53, cJ9_max_7cf53, 2, (some .int))
abbrev YJ9_min_7cf53 : gY := (yJ9_min_7cf53, cJ9_min_7cf53, 2, (some .int))
abbrev YX0_addRoof : gY := (yX0_addRoof, cX0_addRoof, 7, (some .int))
theorem kX0_addRoof : kV YX0_addRoof 6 := ⟨gt_i 247 (by decide +kernel) rfl, gt_i 245 (by decide +kernel) rfl, gt_i 246 (by decide +kernel) rfl, gt_i 58 (by decide +kernel) rfl, ⟨⟨by decide, by decide, by decide +kernel⟩, by decide⟩⟩
abbrev YX0_addStorm : gY := (yX0_addStorm, cX0_addStorm, 6, (some .int))
theorem kX0_addStorm : kV YX0_addStorm 5 := ⟨gt_i 258 (by decide +kernel) rfl, gt_i 256 (by decide +kernel) rfl, gt_i 257 (by decide +kernel) rfl, gt_i 58 (by decide +kernel) rfl, ⟨⟨by decide, by decide, by decide +kernel⟩, by decide⟩⟩
abbrev YX0_allChances : gY := (yX0_allChances, cX0_allChances, 3, (some .int))
theorem kX0_allChances : kV YX0_allChances 0 := ⟨gt_i 457 (by decide +kernel) rfl, gt_i 455 (by decide +kernel) rfl, gt_i 456 (by decide +kernel) rfl, gt_i 58 (by decide +kernel) rfl, ⟨⟨by decide, by decide, by decide +kernel⟩, by decide⟩⟩
abbrev YX0_allGuns : gY := (yX0_allGuns, cX0_allGuns, 3, (some .int))
theorem kX0_allGuns : kV YX0_allGuns 0 := ⟨gt_i 613 (by decide +kernel) rfl, gt_i 611 (by decide +kernel) rfl, gt_i 612 (by decide +kernel) rfl, gt_i 58 (by decide +kernel) rfl, ⟨⟨by decide, by decide, by decide +kernel⟩, by decide⟩⟩
abbrev YX0_become : gY := (yX0_become, cX0_become, 2, none)
theorem kX0_become : kV YX0_become 1 := ⟨gt_i 392 (by decide +kernel) rfl, gt_i 390 (by decide +kernel) rfl, gt_i 391 (by decide +kernel) rfl, gt_i 58 (by decide +kernel) rfl, ⟨⟨by decide, by decide, by decide +kernel⟩, by decide⟩⟩
abbrev YX0_breakSlope : gY := (yX0_breakSlope, cX0_breakSlope, 9, (some .int))
theorem kX0_breakSlope : kV YX0_breakSlope 3 := ⟨gt_i 563 (by decide +kernel) rfl, gt_i 562 (by decide +kernel) rfl, gt_i 16 (by decide +kernel) rfl, gt_i 58 (by decide +kernel) rfl, ⟨⟨by decide, by decide, by decide +kernel⟩, by decide⟩⟩
abbrev YX0_breaksAsTold : gY := (yX0_breaksAsTold, cX0_breaksAsTold, 3, (some .boolean))
theorem kX0_breaksAsTold : kV YX0_breaksAsTold 2 := ⟨gt_i 529 (by decide +kernel) rfl, gt_i 528 (by decide +kernel) rfl, gt_i 14 (by decide +kernel) rfl, gt_i 58 (by decide +kernel) rfl, ⟨⟨by decide, by decide, by decide +kernel⟩, by decide⟩⟩
abbrev YX0_brokenInAll : gY := (yX0_brokenInAll, cX0_brokenInAll, 5, (some .int))
theorem kX0_brokenInAll : kV YX0_brokenInAll 2 := ⟨gt_i 419 (by decide +kernel) rfl, gt_i 417 (by decide +kernel) rfl, gt_i 418 (by decide +kernel) rfl, gt_i 58 (by decide +kernel) rfl, ⟨⟨by decide, by decide, by decide +kernel⟩, by decide⟩⟩
abbrev YX0_brokenOf : gY := (yX0_brokenOf, cX0_brokenOf, 4, (some .int))
theorem kX0_brokenOf : kV YX0_brokenOf 3 := ⟨gt_i 423 (by decide +kernel) rfl, gt_i 421 (by decide +kernel) rfl, gt_i 422 (by decide +kernel) rfl, gt_i 58 (by decide +kernel) rfl, ⟨⟨by decide, by decide, by decide +kernel⟩, by decide⟩⟩
abbrev YX0_chancesOf : gY := (yX0_chancesOf, cX0_chancesOf, 4, (some .int))
theorem kX0_chancesOf : kV YX0_chancesOf 1 := ⟨gt_i 451 (by decide +kernel) rfl, gt_i 449 (by decide +kernel) rfl, gt_i 450 (by decide +kernel) rfl, gt_i 58 (by decide +kernel) rfl, ⟨⟨by decide, by decide, by decide +kernel⟩, by decide⟩⟩
abbrev YX0_chancesWithGun : gY := (yX0_chancesWithGun, cX0_chancesWithGun, 4, (some .int))
theorem kX0_chancesWithGun : kV YX0_chancesWithGun 2 := ⟨gt_i 508 (by decide +kernel) rfl, gt_i 506 (by decide +kernel) rfl, gt_i 507 (by decide +kernel) rfl, gt_i 58 (by decide +kernel) rfl, ⟨⟨by decide, by decide, by decide +kernel⟩, by decide⟩⟩
abbrev YX0_edgeOfBlue : gY := (yX0_edgeOfBlue, cX0_edgeOfBlue, 4, (some .int))
theorem kX0_edgeOfBlue : kV YX0_edgeOfBlue 0 := ⟨gt_i 483 (by decide +kernel) rfl, gt_i 481 (by decide +kernel) rfl, gt_i 482 (by decide +kernel) rfl, gt_i 58 (by decide +kernel) rfl, ⟨⟨by decide, by decide, by decide +kernel⟩, by decide⟩⟩
abbrev YX0_empty : gY := (yX0_empty, cX0_empty, 2, none)
theorem kX0_empty : kV YX0_empty 0 := ⟨gt_i 298 (by decide +kernel) rfl, gt_i 296 (by decide +kernel) rfl, gt_i 297 (by decide +kernel) rfl, gt_i 58 (by decide +kernel) rfl, ⟨⟨by decide, by decide, by decide +kernel⟩, by decide⟩⟩
abbrev YX0_forceOn : gY := (yX0_forceOn, cX0_forceOn, 7, (some .int))
theorem kX0_forceOn : kV YX0_forceOn 3 := ⟨gt_i 408 (by decide +kernel) rfl, gt_i 406 (by decide +kernel) rfl, gt_i 407 (by decide +kernel) rfl, gt_i 58 (by decide +kernel) rfl, ⟨⟨by decide, by decide, by decide +kernel⟩, by decide⟩⟩
abbrev YX0_isDecidedBy : gY := (yX0_isDecidedBy, cX0_isDecidedBy, 5, (some .boolean))
theorem kX0_isDecidedBy : kV YX0_isDecidedBy 2 := ⟨gt_i 496 (by decide +kernel) rfl, gt_i 494 (by decide +kernel) rfl, gt_i 495 (by decide +kernel) rfl, gt_i 58 (by decide +kernel) rfl, ⟨⟨by decide, by decide, by decide +kernel⟩, by decide⟩⟩
abbrev YX0_isTold : gY := (yX0_isTold, cX0_isTold, 2, (some .boolean))
theorem kX0_isTold : kV YX0_isTold 1 := ⟨gt_i 525 (by decide +kernel) rfl, gt_i 524 (by decide +kernel) rfl, gt_i 13 (by decide +kernel) rfl, gt_i 58 (by decide +kernel) rfl, ⟨⟨by decide, by decide, by decide +kernel⟩, by decide⟩⟩
abbrev YX0_keepsEdge : gY := (yX0_keepsEdge, cX0_keepsEdge, 6, (some .boolean))
theorem kX0_keepsEdge : kV YX0_keepsEdge 2 := ⟨gt_i 487 (by decide +kernel) rfl, gt_i 485 (by decide +kernel) rfl, gt_i 486 (by decide +kernel) rfl, gt_i 58 (by decide +kernel) rfl, ⟨⟨by decide, by decide, by decide +kernel⟩, by decide⟩⟩
abbrev YX0_lead : gY := (yX0_lead, cX0_lead, 4, (some .int))
theorem kX0_lead : kV YX0_lead 1 := ⟨gt_i 440 (by decide +kernel) rfl, gt_i 438 (by decide +kernel) rfl, gt_i 439 (by decide +kernel) rfl, gt_i 58 (by decide +kernel) rfl, ⟨⟨by decide, by decide, by decide +kernel⟩, by decide⟩⟩
abbrev YX0_mixGuns : gY := (yX0_mixGuns, cX0_mixGuns, 4, (some .long))
theorem kX0_mixGuns : kV YX0_mixGuns 1 := ⟨gt_i 633 (by decide +kernel) rfl, gt_i 631 (by decide +kernel) rfl, gt_i 632 (by decide +kernel) rfl, gt_i 58 (by decide +kernel) rfl, ⟨⟨by decide, by decide, by decide +kernel⟩, by decide⟩⟩
abbrev YX0_mixRoofs : gY := (yX0_mixRoofs, cX0_mixRoofs, 5, (some .long))
theorem kX0_mixRoofs : kV YX0_mixRoofs 1 := ⟨gt_i 624 (by decide +kernel) rfl, gt_i 622 (by decide +kernel) rfl, gt_i 623 (by decide +kernel) rfl, gt_i 58 (by decide +kernel) rfl, ⟨⟨by decide, by decide, by decide +kernel⟩, by decide⟩⟩
abbrev YX0_mixStorms : gY := (yX0_mixStorms, cX0_mixStorms, 4, (some .long))
theorem kX0_mixStorms : kV YX0_mixStorms 1 := ⟨gt_i 629 (by decide +kernel) rfl, gt_i 627 (by decide +kernel) rfl, gt_i 628 (by decide +kernel) rfl, gt_i 58 (by decide +kernel) rfl, ⟨⟨by decide, by decide, by decide +kernel⟩, by decide⟩⟩
abbrev YX0_passYear : gY := (yX0_passYear, cX0_passYear, 4, (some .int))
theorem kX0_passYear : kV YX0_passYear 1 := ⟨gt_i 559 (by decide +kernel) rfl, gt_i 557 (by decide +kernel) rfl, gt_i 558 (by decide +kernel) rfl, gt_i 58 (by decide +kernel) rfl, ⟨⟨by decide, by decide, by decide +kernel⟩, by decide⟩⟩
abbrev YX0_roofsByHand : gY := (yX0_roofsByHand, cX0_roofsByHand, 5, (some .int))
theorem kX0_roofsByHand : kV YX0_roofsByHand 0 := ⟨gt_i 533 (by decide +kernel) rfl, gt_i 531 (by decide +kernel) rfl, gt_i 532 (by decide +kernel) rfl, gt_i 58 (by decide +kernel) rfl, ⟨⟨by decide, by decide, by decide +kernel⟩, by decide⟩⟩
abbrev YX0_row : gY := (yX0_row, cX0_row, 3, (some .int))
theorem kX0_row : kS YX0_row 3 := ⟨gt_i 250 (by decide +kernel) rfl, gt_i 249 (by decide +kernel) rfl, gt_i 58 (by decide +kernel) rfl, ⟨⟨by decide, by decide, by decide +kernel⟩, by decide⟩⟩
abbrev YX0_stormAt : gY := (yX0_stormAt, cX0_stormAt, 6, (some .int))
theorem kX0_stormAt : kV YX0_stormAt 1 := ⟨gt_i 584 (by decide +kernel) rfl, gt_i 582 (by decide +kernel) rfl, gt_i 583 (by decide +kernel) rfl, gt_i 58 (by decide +kernel) rfl, ⟨⟨by decide, by decide, by decide +kernel⟩, by decide⟩⟩
abbrev YX0_stormsThatFit : gY := (yX0_stormsThatFit, cX0_stormsThatFit, 5, (some .int))
theorem kX0_stormsThatFit : kV YX0_stormsThatFit 0 := ⟨gt_i 521 (by decide +kernel) rfl, gt_i 519 (by decide +kernel) rfl, gt_i 520 (by decide +kernel) rfl, gt_i 58 (by decide +kernel) rfl, ⟨⟨by decide, by decide, by decide +kernel⟩, by decide⟩⟩
abbrev YX0_toll : gY := (yX0_toll, cX0_toll, 5, (some .int))
theorem kX0_toll : kV YX0_toll 3 := ⟨gt_i 427 (by decide +kernel) rfl, gt_i 426 (by decide +kernel) rfl, gt_i 12 (by decide +kernel) rfl, gt_i 58 (by decide +kernel) rfl, ⟨⟨by decide, by decide, by decide +kernel⟩, by decide⟩⟩
abbrev YX0_winnerBy : gY := (yX0_winnerBy, cX0_winnerBy, 1, (some .int))
theorem kX0_winnerBy : kS YX0_winnerBy 1 := ⟨gt_i 443 (by decide +kernel) rfl, gt_i 442 (by decide +kernel) rfl, gt_i 58 (by decide +kernel) rfl, ⟨⟨by decide, by decide, by decide +kernel⟩, by decide⟩⟩
abbrev YX1_become : gY := (yX1_become, cX1_become, 7, none)
theorem kX1_become : kV YX1_become 2 := ⟨gt_i 461 (by decide +kernel) rfl, gt_i 459 (by decide +kernel) rfl, gt_i 460 (by decide +kernel) rfl, gt_i 60 (by decide +kernel) rfl, ⟨⟨by decide, by decide, by decide +kernel⟩, by decide⟩⟩
abbrev YX1_choose : gY := (yX1_choose, cX1_choose, 5, (some .long))
theorem kX1_choose : kS YX1_choose 2 := ⟨gt_i 542 (by decide +kernel) rfl, gt_i 541 (by decide +kernel) rfl, gt_i 60 (by decide +kernel) rfl, ⟨⟨by decide, by decide, by decide +kernel⟩, by decide⟩⟩
abbrev YX1_greatestShared : gY := (yX1_greatestShared, cX1_greatestShared, 7, (some .long))
theorem kX1_greatestShared : kS YX1_greatestShared 2 := ⟨gt_i 467 (by decide +kernel) rfl, gt_i 466 (by decide +kernel) rfl, gt_i 60 (by decide +kernel) rfl, ⟨⟨by decide, by decide, by decide +kernel⟩, by decide⟩⟩
abbrev YX2_endOfRun : gY := (yX2_endOfRun, cX2_endOfRun, 5, (some .int))
theorem kX2_endOfRun : kV YX2_endOfRun 3 := ⟨gt_i 306 (by decide +kernel) rfl, gt_i 305 (by decide +kernel) rfl, gt_i 3 (by decide +kernel) rfl, gt_i 59 (by decide +kernel) rfl, ⟨⟨by decide, by decide, by decide +kernel⟩, by decide⟩⟩
abbrev YX2_isWord : gY := (yX2_isWord, cX2_isWord, 3, (some .boolean))
theorem kX2_isWord : kV YX2_isWord 1 := ⟨gt_i 316 (by decide +kernel) rfl, gt_i 315 (by decide +kernel) rfl, gt_i 5 (by decide +kernel) rfl, gt_i 59 (by decide +kernel) rfl, ⟨⟨by decide, by decide, by decide +kernel⟩, by decide⟩⟩
abbrev YX2_nextToken : gY := (yX2_nextToken, cX2_nextToken, 1, none)
theorem kX2_nextToken : kV YX2_nextToken 0 := ⟨gt_i 302 (by decide +kernel) rfl, gt_i 301 (by decide +kernel) rfl, gt_i 2 (by decide +kernel) rfl, gt_i 59 (by decide +kernel) rfl, ⟨⟨by decide, by decide, by decide +kernel⟩, by decide⟩⟩
abbrev YX2_put : gY := (yX2_put, cX2_put, 2, none)
theorem kX2_put : kV YX2_put 1 := ⟨gt_i 282 (by decide +kernel) rfl, gt_i 280 (by decide +kernel) rfl, gt_i 281 (by decide +kernel) rfl, gt_i 59 (by decide +kernel) rfl, ⟨⟨by decide, by decide, by decide +kernel⟩, by decide⟩⟩
abbrev YX2_readCannon : gY := (yX2_readCannon, cX2_readCannon, 3, (some .boolean))
theorem kX2_readCannon : kV YX2_readCannon 1 := ⟨gt_i 388 (by decide +kernel) rfl, gt_i 387 (by decide +kernel) rfl, gt_i 10 (by decide +kernel) rfl, gt_i 59 (by decide +kernel) rfl, ⟨⟨by decide, by decide, by decide +kernel⟩, by decide⟩⟩
abbrev YX2_readInto : gY := (yX2_readInto, cX2_readInto, 3, (some .int))
theorem kX2_readInto : kV YX2_readInto 1 := ⟨gt_i 294 (by decide +kernel) rfl, gt_i 292 (by decide +kernel) rfl, gt_i 293 (by decide +kernel) rfl, gt_i 59 (by decide +kernel) rfl, ⟨⟨by decide, by decide, by decide +kernel⟩, by decide⟩⟩
abbrev YX2_readItem : gY := (yX2_readItem, cX2_readItem, 2, (some .boolean))
theorem kX2_readItem : kV YX2_readItem 1 := ⟨gt_i 311 (by decide +kernel) rfl, gt_i 310 (by decide +kernel) rfl, gt_i 4 (by decide +kernel) rfl, gt_i 59 (by decide +kernel) rfl, ⟨⟨by decide, by decide, by decide +kernel⟩, by decide⟩⟩
abbrev YX2_readNumber : gY := (yX2_readNumber, cX2_readNumber, 4, (some .boolean))
theorem kX2_readNumber : kV YX2_readNumber 3 := ⟨gt_i 372 (by decide +kernel) rfl, gt_i 371 (by decide +kernel) rfl, gt_i 7 (by decide +kernel) rfl, gt_i 59 (by decide +kernel) rfl, ⟨⟨by decide, by decide, by decide +kernel⟩, by decide⟩⟩
abbrev YX2_readRoof : gY := (yX2_readRoof, cX2_readRoof, 3, (some .boolean))
theorem kX2_readRoof : kV YX2_readRoof 1 := ⟨gt_i 368 (by decide +kernel) rfl, gt_i 367 (by decide +kernel) rfl, gt_i 6 (by decide +kernel) rfl, gt_i 59 (by decide +kernel) rfl, ⟨⟨by decide, by decide, by decide +kernel⟩, by decide⟩⟩
abbrev YX2_readStop : gY := (yX2_readStop, cX2_readStop, 1, (some .boolean))
theorem kX2_readStop : kV YX2_readStop 0 := ⟨gt_i 376 (by decide +kernel) rfl, gt_i 375 (by decide +kernel) rfl, gt_i 8 (by decide +kernel) rfl, gt_i 59 (by decide +kernel) rfl, ⟨⟨by decide, by decide, by decide +kernel⟩, by decide⟩⟩
abbrev YX2_readStorm : gY := (yX2_readStorm, cX2_readStorm, 3, (some .boolean))
theorem kX2_readStorm : kV YX2_readStorm 1 := ⟨gt_i 382 (by decide +kernel) rfl, gt_i 381 (by decide +kernel) rfl, gt_i 9 (by decide +kernel) rfl, gt_i 59 (by decide +kernel) rfl, ⟨⟨by decide, by decide, by decide +kernel⟩, by decide⟩⟩
abbrev YX3_become : gY := (yX3_become, cX3_become, 3, none)
theorem kX3_become : kV YX3_become 1 := ⟨gt_i 597 (by decide +kernel) rfl, gt_i 595 (by decide +kernel) rfl, gt_i 596 (by decide +kernel) rfl, gt_i 57 (by decide +kernel) rfl, ⟨⟨by decide, by decide, by decide +kernel⟩, by decide⟩⟩
abbrev YX3_forgetOldest : gY := (yX3_forgetOldest, cX3_forgetOldest, 2, none)
theorem kX3_forgetOldest : kV YX3_forgetOldest 0 := ⟨gt_i 554 (by decide +kernel) rfl, gt_i 553 (by decide +kernel) rfl, gt_i 15 (by decide +kernel) rfl, gt_i 57 (by decide +kernel) rfl, ⟨⟨by decide, by decide, by decide +kernel⟩, by decide⟩⟩
abbrev YX3_goBack : gY := (yX3_goBack, cX3_goBack, 1, (some .boolean))
theorem kX3_goBack : kV YX3_goBack 0 := ⟨gt_i 571 (by decide +kernel) rfl, gt_i 569 (by decide +kernel) rfl, gt_i 570 (by decide +kernel) rfl, gt_i 57 (by decide +kernel) rfl, ⟨⟨by decide, by decide, by decide +kernel⟩, by decide⟩⟩
abbrev YX3_remember : gY := (yX3_remember, cX3_remember, 1, none)
theorem kX3_remember : kV YX3_remember 0 := ⟨gt_i 550 (by decide +kernel) rfl, gt_i 548 (by decide +kernel) rfl, gt_i 549 (by decide +kernel) rfl, gt_i 57 (by decide +kernel) rfl, ⟨⟨by decide, by decide, by decide +kernel⟩, by decide⟩⟩
abbrev YX4_against : gY := (yX4_against, cX4_against, 3, (some .int))
theorem kX4_against : kV YX4_against 0 := ⟨gt_i 479 (by decide +kernel) rfl, gt_i 477 (by decide +kernel) rfl, gt_i 478 (by decide +kernel) rfl, gt_i 56 (by decide +kernel) rfl, ⟨⟨by decide, by decide, by decide +kernel⟩, by decide⟩⟩
abbrev YX4_areTiles : gY := (yX4_areTiles, cX4_areTiles, 2, (some .boolean))
theorem kX4_areTiles : kS YX4_areTiles 2 := ⟨gt_i 239 (by decide +kernel) rfl, gt_i 238 (by decide +kernel) rfl, gt_i 56 (by decide +kernel) rfl, ⟨⟨by decide, by decide, by decide +kernel⟩, by decide⟩⟩
abbrev YX4_breaks : gY := (yX4_breaks, cX4_breaks, 4, (some .int))
theorem kX4_breaks : kV YX4_breaks 3 := ⟨gt_i 415 (by decide +kernel) rfl, gt_i 413 (by decide +kernel) rfl, gt_i 414 (by decide +kernel) rfl, gt_i 56 (by decide +kernel) rfl, ⟨⟨by decide, by decide, by decide +kernel⟩, by decide⟩⟩
abbrev YX4_brush : gY := (yX4_brush, cX4_brush, 5, (some .int))
theorem kX4_brush : kV YX4_brush 4 := ⟨gt_i 475 (by decide +kernel) rfl, gt_i 473 (by decide +kernel) rfl, gt_i 474 (by decide +kernel) rfl, gt_i 56 (by decide +kernel) rfl, ⟨⟨by decide, by decide, by decide +kernel⟩, by decide⟩⟩
abbrev YX4_cannon : gY := (yX4_cannon, cX4_cannon, 4, (some .int))
theorem kX4_cannon : kV YX4_cannon 2 := ⟨gt_i 262 (by decide +kernel) rfl, gt_i 260 (by decide +kernel) rfl, gt_i 261 (by decide +kernel) rfl, gt_i 56 (by decide +kernel) rfl, ⟨⟨by decide, by decide, by decide +kernel⟩, by decide⟩⟩
abbrev YX4_clear : gY := (yX4_clear, cX4_clear, 2, (some .int))
theorem kX4_clear : kV YX4_clear 0 := ⟨gt_i 286 (by decide +kernel) rfl, gt_i 284 (by decide +kernel) rfl, gt_i 285 (by decide +kernel) rfl, gt_i 56 (by decide +kernel) rfl, ⟨⟨by decide, by decide, by decide +kernel⟩, by decide⟩⟩
abbrev YX4_count : gY := (yX4_count, cX4_count, 2, (some .int))
theorem kX4_count : kV YX4_count 1 := ⟨gt_i 609 (by decide +kernel) rfl, gt_i 607 (by decide +kernel) rfl, gt_i 608 (by decide +kernel) rfl, gt_i 56 (by decide +kernel) rfl, ⟨⟨by decide, by decide, by decide +kernel⟩, by decide⟩⟩
abbrev YX4_decides : gY := (yX4_decides, cX4_decides, 4, (some .int))
theorem kX4_decides : kV YX4_decides 1 := ⟨gt_i 492 (by decide +kernel) rfl, gt_i 490 (by decide +kernel) rfl, gt_i 491 (by decide +kernel) rfl, gt_i 56 (by decide +kernel) rfl, ⟨⟨by decide, by decide, by decide +kernel⟩, by decide⟩⟩
abbrev YX4_digest : gY := (yX4_digest, cX4_digest, 4, (some .long))
theorem kX4_digest : kV YX4_digest 0 := ⟨gt_i 617 (by decide +kernel) rfl, gt_i 615 (by decide +kernel) rfl, gt_i 616 (by decide +kernel) rfl, gt_i 56 (by decide +kernel) rfl, ⟨⟨by decide, by decide, by decide +kernel⟩, by decide⟩⟩
abbrev YX4_drawn : gY := (yX4_drawn, cX4_drawn, 11, (some .int))
theorem kX4_drawn : kV YX4_drawn 2 := ⟨gt_i 575 (by decide +kernel) rfl, gt_i 573 (by decide +kernel) rfl, gt_i 574 (by decide +kernel) rfl, gt_i 56 (by decide +kernel) rfl, ⟨⟨by decide, by decide, by decide +kernel⟩, by decide⟩⟩
abbrev YX4_force : gY := (yX4_force, cX4_force, 4, (some .int))
theorem kX4_force : kV YX4_force 3 := ⟨gt_i 400 (by decide +kernel) rfl, gt_i 398 (by decide +kernel) rfl, gt_i 399 (by decide +kernel) rfl, gt_i 56 (by decide +kernel) rfl, ⟨⟨by decide, by decide, by decide +kernel⟩, by decide⟩⟩
abbrev YX4_from : gY := (yX4_from, cX4_from, 3, (some .int))
theorem kX4_from : kV YX4_from 1 := ⟨gt_i 601 (by decide +kernel) rfl, gt_i 599 (by decide +kernel) rfl, gt_i 600 (by decide +kernel) rfl, gt_i 56 (by decide +kernel) rfl, ⟨⟨by decide, by decide, by decide +kernel⟩, by decide⟩⟩
abbrev YX4_image : gY := (yX4_image, cX4_image, 3, (some .int))
theorem kX4_image : kV YX4_image 1 := ⟨gt_i 593 (by decide +kernel) rfl, gt_i 591 (by decide +kernel) rfl, gt_i 592 (by decide +kernel) rfl, gt_i 56 (by decide +kernel) rfl, ⟨⟨by decide, by decide, by decide +kernel⟩, by decide⟩⟩
abbrev YX4_isPaint : gY := (yX4_isPaint, cX4_isPaint, 1, (some .boolean))
theorem kX4_isPaint : kS YX4_isPaint 1 := ⟨gt_i 273 (by decide +kernel) rfl, gt_i 272 (by decide +kernel) rfl, gt_i 56 (by decide +kernel) rfl, ⟨⟨by decide, by decide, by decide +kernel⟩, by decide⟩⟩
abbrev YX4_isRoof : gY := (yX4_isRoof, cX4_isRoof, 2, (some .boolean))
theorem kX4_isRoof : kV YX4_isRoof 1 := ⟨gt_i 270 (by decide +kernel) rfl, gt_i 269 (by decide +kernel) rfl, gt_i 1 (by decide +kernel) rfl, gt_i 56 (by decide +kernel) rfl, ⟨⟨by decide, by decide, by decide +kernel⟩, by decide⟩⟩
abbrev YX4_isStorm : gY := (yX4_isStorm, cX4_isStorm, 2, (some .boolean))
theorem kX4_isStorm : kV YX4_isStorm 1 := ⟨gt_i 404 (by decide +kernel) rfl, gt_i 403 (by decide +kernel) rfl, gt_i 11 (by decide +kernel) rfl, gt_i 56 (by decide +kernel) rfl, ⟨⟨by decide, by decide, by decide +kernel⟩, by decide⟩⟩
abbrev YX4_odds : gY := (yX4_odds, cX4_odds, 3, (some .int))
theorem kX4_odds : kV YX4_odds 1 := ⟨gt_i 447 (by decide +kernel) rfl, gt_i 445 (by decide +kernel) rfl, gt_i 446 (by decide +kernel) rfl, gt_i 56 (by decide +kernel) rfl, ⟨⟨by decide, by decide, by decide +kernel⟩, by decide⟩⟩
abbrev YX4_paint : gY := (yX4_paint, cX4_paint, 3, (some .int))
theorem kX4_paint : kV YX4_paint 2 := ⟨gt_i 471 (by decide +kernel) rfl, gt_i 469 (by decide +kernel) rfl, gt_i 470 (by decide +kernel) rfl, gt_i 56 (by decide +kernel) rfl, ⟨⟨by decide, by decide, by decide +kernel⟩, by decide⟩⟩
abbrev YX4_part : gY := (yX4_part, cX4_part, 2, (some .long))
theorem kX4_part : kV YX4_part 1 := ⟨gt_i 588 (by decide +kernel) rfl, gt_i 586 (by decide +kernel) rfl, gt_i 587 (by decide +kernel) rfl, gt_i 56 (by decide +kernel) rfl, ⟨⟨by decide, by decide, by decide +kernel⟩, by decide⟩⟩
abbrev YX4_power : gY := (yX4_power, cX4_power, 4, (some .int))
theorem kX4_power : kV YX4_power 1 := ⟨gt_i 500 (by decide +kernel) rfl, gt_i 498 (by decide +kernel) rfl, gt_i 499 (by decide +kernel) rfl, gt_i 56 (by decide +kernel) rfl, ⟨⟨by decide, by decide, by decide +kernel⟩, by decide⟩⟩
abbrev YX4_read : gY := (yX4_read, cX4_read, 2, (some .int))
theorem kX4_read : kV YX4_read 0 := ⟨gt_i 290 (by decide +kernel) rfl, gt_i 288 (by decide +kernel) rfl, gt_i 289 (by decide +kernel) rfl, gt_i 56 (by decide +kernel) rfl, ⟨⟨by decide, by decide, by decide +kernel⟩, by decide⟩⟩
abbrev YX4_recount : gY := (yX4_recount, cX4_recount, 10, (some .int))
theorem kX4_recount : kV YX4_recount 2 := ⟨gt_i 537 (by decide +kernel) rfl, gt_i 535 (by decide +kernel) rfl, gt_i 536 (by decide +kernel) rfl, gt_i 56 (by decide +kernel) rfl, ⟨⟨by decide, by decide, by decide +kernel⟩, by decide⟩⟩
abbrev YX4_refuse : gY := (yX4_refuse, cX4_refuse, 2, (some .int))
theorem kX4_refuse : kV YX4_refuse 1 := ⟨gt_i 243 (by decide +kernel) rfl, gt_i 242 (by decide +kernel) rfl, gt_i 0 (by decide +kernel) rfl, gt_i 56 (by decide +kernel) rfl, ⟨⟨by decide, by decide, by decide +kernel⟩, by decide⟩⟩
abbrev YX4_roof : gY := (yX4_roof, cX4_roof, 8, (some .int))
theorem kX4_roof : kV YX4_roof 6 := ⟨gt_i 233 (by decide +kernel) rfl, gt_i 231 (by decide +kernel) rfl, gt_i 232 (by decide +kernel) rfl, gt_i 56 (by decide +kernel) rfl, ⟨⟨by decide, by decide, by decide +kernel⟩, by decide⟩⟩
abbrev YX4_shards : gY := (yX4_shards, cX4_shards, 6, (some .int))
theorem kX4_shards : kV YX4_shards 3 := ⟨gt_i 513 (by decide +kernel) rfl, gt_i 511 (by decide +kernel) rfl, gt_i 512 (by decide +kernel) rfl, gt_i 56 (by decide +kernel) rfl, ⟨⟨by decide, by decide, by decide +kernel⟩, by decide⟩⟩
abbrev YX4_shield : gY := (yX4_shield, cX4_shield, 6, (some .int))
theorem kX4_shield : kV YX4_shield 1 := ⟨gt_i 504 (by decide +kernel) rfl, gt_i 502 (by decide +kernel) rfl, gt_i 503 (by decide +kernel) rfl, gt_i 56 (by decide +kernel) rfl, ⟨⟨by decide, by decide, by decide +kernel⟩, by decide⟩⟩
abbrev YX4_status : gY := (yX4_status, cX4_status, 2, (some .int))
theorem kX4_status : kV YX4_status 1 := ⟨gt_i 605 (by decide +kernel) rfl, gt_i 603 (by decide +kernel) rfl, gt_i 604 (by decide +kernel) rfl, gt_i 56 (by decide +kernel) rfl, ⟨⟨by decide, by decide, by decide +kernel⟩, by decide⟩⟩
abbrev YX4_storm : gY := (yX4_storm, cX4_storm, 7, (some .int))
theorem kX4_storm : kV YX4_storm 5 := ⟨gt_i 254 (by decide +kernel) rfl, gt_i 252 (by decide +kernel) rfl, gt_i 253 (by decide +kernel) rfl, gt_i 56 (by decide +kernel) rfl, ⟨⟨by decide, by decide, by decide +kernel⟩, by decide⟩⟩
abbrev YX4_tiles : gY := (yX4_tiles, cX4_tiles, 4, (some .int))
theorem kX4_tiles : kV YX4_tiles 3 := ⟨gt_i 266 (by decide +kernel) rfl, gt_i 264 (by decide +kernel) rfl, gt_i 265 (by decide +kernel) rfl, gt_i 56 (by decide +kernel) rfl, ⟨⟨by decide, by decide, by decide +kernel⟩, by decide⟩⟩
abbrev YX4_type : gY := (yX4_type, cX4_type, 5, (some .int))
theorem kX4_type : kV YX4_type 2 := ⟨gt_i 278 (by decide +kernel) rfl, gt_i 276 (by decide +kernel) rfl, gt_i 277 (by decide +kernel) rfl, gt_i 56 (by decide +kernel) rfl, ⟨⟨by decide, by decide, by decide +kernel⟩, by decide⟩⟩
abbrev YX4_undo : gY := (yX4_undo, cX4_undo, 1, (some .int))
theorem kX4_undo : kV YX4_undo 0 := ⟨gt_i 567 (by decide +kernel) rfl, gt_i 565 (by decide +kernel) rfl, gt_i 566 (by decide +kernel) rfl, gt_i 56 (by decide +kernel) rfl, ⟨⟨by decide, by decide, by decide +kernel⟩, by decide⟩⟩
abbrev YX4_which : gY := (yX4_which, cX4_which, 2, (some .int))
theorem kX4_which : kV YX4_which 1 := ⟨gt_i 517 (by decide +kernel) rfl, gt_i 515 (by decide +kernel) rfl, gt_i 516 (by decide +kernel) rfl, gt_i 56 (by decide +kernel) rfl, ⟨⟨by decide, by decide, by decide +kernel⟩, by decide⟩⟩
abbrev YX4_wins : gY := (yX4_wins, cX4_wins, 2, (some .int))
theorem kX4_wins : kV YX4_wins 1 := ⟨gt_i 436 (by decide +kernel) rfl, gt_i 434 (by decide +kernel) rfl, gt_i 435 (by decide +kernel) rfl, gt_i 56 (by decide +kernel) rfl, ⟨⟨by decide, by decide, by decide +kernel⟩, by decide⟩⟩
abbrev YX4_within : gY := (yX4_within, cX4_within, 3, (some .boolean))
theorem kX4_within : kS YX4_within 3 := ⟨gt_i 236 (by decide +kernel) rfl, gt_i 235 (by decide +kernel) rfl, gt_i 56 (by decide +kernel) rfl, ⟨⟨by decide, by decide, by decide +kernel⟩, by decide⟩⟩
abbrev YX4_year : gY := (yX4_year, cX4_year, 2, (some .int))
theorem kX4_year : kV YX4_year 1 := ⟨gt_i 546 (by decide +kernel) rfl, gt_i 544 (by decide +kernel) rfl, gt_i 545 (by decide +kernel) rfl, gt_i 56 (by decide +kernel) rfl, ⟨⟨by decide, by decide, by decide +kernel⟩, by decide⟩⟩
abbrev YX5_against : gY := (yX5_against, cX5_against, 6, (some .int))
theorem kX5_against : kV YX5_against 0 := ⟨gt_i 846 (by decide +kernel) rfl, gt_i 844 (by decide +kernel) rfl, gt_i 845 (by decide +kernel) rfl, gt_i 61 (by decide +kernel) rfl, ⟨⟨by decide, by decide, by decide +kernel⟩, by decide⟩⟩
abbrev YX5_allChances : gY := (yX5_allChances, cX5_allChances, 3, (some .int))
theorem kX5_allChances : kV YX5_allChances 0 := ⟨gt_i 821 (by decide +kernel) rfl, gt_i 820 (by decide +kernel) rfl, gt_i 34 (by decide +kernel) rfl, gt_i 61 (by decide +kernel) rfl, ⟨⟨by decide, by decide, by decide +kernel⟩, by decide⟩⟩
abbrev YX5_bad : gY := (yX5_bad, cX5_bad, 2, (some .int))
theorem kX5_bad : kV YX5_bad 1 := ⟨gt_i 717 (by decide +kernel) rfl, gt_i 716 (by decide +kernel) rfl, gt_i 17 (by decide +kernel) rfl, gt_i 61 (by decide +kernel) rfl, ⟨⟨by decide, by decide, by decide +kernel⟩, by decide⟩⟩
abbrev YX5_breaks : gY := (yX5_breaks, cX5_breaks, 4, (some .int))
theorem kX5_breaks : kV YX5_breaks 3 := ⟨gt_i 780 (by decide +kernel) rfl, gt_i 778 (by decide +kernel) rfl, gt_i 779 (by decide +kernel) rfl, gt_i 61 (by decide +kernel) rfl, ⟨⟨by decide, by decide, by decide +kernel⟩, by decide⟩⟩
abbrev YX5_breaksAll : gY := (yX5_breaksAll, cX5_breaksAll, 4, (some .int))
theorem kX5_breaksAll : kV YX5_breaksAll 3 := ⟨gt_i 792 (by decide +kernel) rfl, gt_i 791 (by decide +kernel) rfl, gt_i 29 (by decide +kernel) rfl, gt_i 61 (by decide +kernel) rfl, ⟨⟨by decide, by decide, by decide +kernel⟩, by decide⟩⟩
abbrev YX5_breaksOf : gY := (yX5_breaksOf, cX5_breaksOf, 7, (some .int))
theorem kX5_breaksOf : kV YX5_breaksOf 4 := ⟨gt_i 796 (by decide +kernel) rfl, gt_i 795 (by decide +kernel) rfl, gt_i 30 (by decide +kernel) rfl, gt_i 61 (by decide +kernel) rfl, ⟨⟨by decide, by decide, by decide +kernel⟩, by decide⟩⟩
abbrev YX5_breaksSo : gY := (yX5_breaksSo, cX5_breaksSo, 4, (some .boolean))
theorem kX5_breaksSo : kV YX5_breaksSo 2 := ⟨gt_i 883 (by decide +kernel) rfl, gt_i 882 (by decide +kernel) rfl, gt_i 41 (by decide +kernel) rfl, gt_i 61 (by decide +kernel) rfl, ⟨⟨by decide, by decide, by decide +kernel⟩, by decide⟩⟩
abbrev YX5_brokenBy : gY := (yX5_brokenBy, cX5_brokenBy, 5, (some .int))
theorem kX5_brokenBy : kV YX5_brokenBy 2 := ⟨gt_i 788 (by decide +kernel) rfl, gt_i 787 (by decide +kernel) rfl, gt_i 28 (by decide +kernel) rfl, gt_i 61 (by decide +kernel) rfl, ⟨⟨by decide, by decide, by decide +kernel⟩, by decide⟩⟩
abbrev YX5_brush : gY := (yX5_brush, cX5_brush, 5, (some .int))
theorem kX5_brush : kV YX5_brush 4 := ⟨gt_i 842 (by decide +kernel) rfl, gt_i 840 (by decide +kernel) rfl, gt_i 841 (by decide +kernel) rfl, gt_i 61 (by decide +kernel) rfl, ⟨⟨by decide, by decide, by decide +kernel⟩, by decide⟩⟩
abbrev YX5_brushOn : gY := (yX5_brushOn, cX5_brushOn, 4, none)
theorem kX5_brushOn : kV YX5_brushOn 3 := ⟨gt_i 838 (by decide +kernel) rfl, gt_i 837 (by decide +kernel) rfl, gt_i 37 (by decide +kernel) rfl, gt_i 61 (by decide +kernel) rfl, ⟨⟨by decide, by decide, by decide +kernel⟩, by decide⟩⟩
abbrev YX5_cannon : gY := (yX5_cannon, cX5_cannon, 4, (some .int))
theorem kX5_cannon : kV YX5_cannon 2 := ⟨gt_i 744 (by decide +kernel) rfl, gt_i 742 (by decide +kernel) rfl, gt_i 743 (by decide +kernel) rfl, gt_i 61 (by decide +kernel) rfl, ⟨⟨by decide, by decide, by decide +kernel⟩, by decide⟩⟩
abbrev YX5_cannonAt : gY := (yX5_cannonAt, cX5_cannonAt, 2, (some .int))
theorem kX5_cannonAt : kV YX5_cannonAt 1 := ⟨gt_i 776 (by decide +kernel) rfl, gt_i 775 (by decide +kernel) rfl, gt_i 26 (by decide +kernel) rfl, gt_i 61 (by decide +kernel) rfl, ⟨⟨by decide, by decide, by decide +kernel⟩, by decide⟩⟩
abbrev YX5_cannons : gY := (yX5_cannons, cX5_cannons, 3, (some .int))
theorem kX5_cannons : kV YX5_cannons 0 := ⟨gt_i 1000 (by decide +kernel) rfl, gt_i 999 (by decide +kernel) rfl, gt_i 53 (by decide +kernel) rfl, gt_i 61 (by decide +kernel) rfl, ⟨⟨by decide, by decide, by decide +kernel⟩, by decide⟩⟩
abbrev YX5_chanceOf : gY := (yX5_chanceOf, cX5_chanceOf, 4, (some .int))
theorem kX5_chanceOf : kV YX5_chanceOf 1 := ⟨gt_i 817 (by decide +kernel) rfl, gt_i 816 (by decide +kernel) rfl, gt_i 33 (by decide +kernel) rfl, gt_i 61 (by decide +kernel) rfl, ⟨⟨by decide, by decide, by decide +kernel⟩, by decide⟩⟩
abbrev YX5_choose : gY := (yX5_choose, cX5_choose, 5, (some .long))
theorem kX5_choose : kS YX5_choose 2 := ⟨gt_i 891 (by decide +kernel) rfl, gt_i 890 (by decide +kernel) rfl, gt_i 61 (by decide +kernel) rfl, ⟨⟨by decide, by decide, by decide +kernel⟩, by decide⟩⟩
abbrev YX5_clear : gY := (yX5_clear, cX5_clear, 2, (some .int))
theorem kX5_clear : kV YX5_clear 0 := ⟨gt_i 926 (by decide +kernel) rfl, gt_i 924 (by decide +kernel) rfl, gt_i 925 (by decide +kernel) rfl, gt_i 61 (by decide +kernel) rfl, ⟨⟨by decide, by decide, by decide +kernel⟩, by decide⟩⟩
abbrev YX5_count : gY := (yX5_count, cX5_count, 2, (some .int))
theorem kX5_count : kV YX5_count 1 := ⟨gt_i 992 (by decide +kernel) rfl, gt_i 990 (by decide +kernel) rfl, gt_i 991 (by decide +kernel) rfl, gt_i 61 (by decide +kernel) rfl, ⟨⟨by decide, by decide, by decide +kernel⟩, by decide⟩⟩
abbrev YX5_counted : gY := (yX5_counted, cX5_counted, 2, (some .int))
theorem kX5_counted : kV YX5_counted 1 := ⟨gt_i 996 (by decide +kernel) rfl, gt_i 995 (by decide +kernel) rfl, gt_i 52 (by decide +kernel) rfl, gt_i 61 (by decide +kernel) rfl, ⟨⟨by decide, by decide, by decide +kernel⟩, by decide⟩⟩
abbrev YX5_decides : gY := (yX5_decides, cX5_decides, 2, (some .int))
theorem kX5_decides : kV YX5_decides 1 := ⟨gt_i 854 (by decide +kernel) rfl, gt_i 852 (by decide +kernel) rfl, gt_i 853 (by decide +kernel) rfl, gt_i 61 (by decide +kernel) rfl, ⟨⟨by decide, by decide, by decide +kernel⟩, by decide⟩⟩
abbrev YX5_digest : gY := (yX5_digest, cX5_digest, 4, (some .long))
theorem kX5_digest : kV YX5_digest 0 := ⟨gt_i 1004 (by decide +kernel) rfl, gt_i 1002 (by decide +kernel) rfl, gt_i 1003 (by decide +kernel) rfl, gt_i 61 (by decide +kernel) rfl, ⟨⟨by decide, by decide, by decide +kernel⟩, by decide⟩⟩
abbrev YX5_drawn : gY := (yX5_drawn, cX5_drawn, 12, (some .int))
theorem kX5_drawn : kV YX5_drawn 2 := ⟨gt_i 911 (by decide +kernel) rfl, gt_i 909 (by decide +kernel) rfl, gt_i 910 (by decide +kernel) rfl, gt_i 61 (by decide +kernel) rfl, ⟨⟨by decide, by decide, by decide +kernel⟩, by decide⟩⟩
abbrev YX5_findDecided : gY := (yX5_findDecided, cX5_findDecided, 4, (some .int))
theorem kX5_findDecided : kV YX5_findDecided 1 := ⟨gt_i 858 (by decide +kernel) rfl, gt_i 857 (by decide +kernel) rfl, gt_i 39 (by decide +kernel) rfl, gt_i 61 (by decide +kernel) rfl, ⟨⟨by decide, by decide, by decide +kernel⟩, by decide⟩⟩
abbrev YX5_findPaint : gY := (yX5_findPaint, cX5_findPaint, 9, none)
theorem kX5_findPaint : kV YX5_findPaint 2 := ⟨gt_i 834 (by decide +kernel) rfl, gt_i 833 (by decide +kernel) rfl, gt_i 36 (by decide +kernel) rfl, gt_i 61 (by decide +kernel) rfl, ⟨⟨by decide, by decide, by decide +kernel⟩, by decide⟩⟩
abbrev YX5_force : gY := (yX5_force, cX5_force, 4, (some .int))
theorem kX5_force : kV YX5_force 3 := ⟨gt_i 760 (by decide +kernel) rfl, gt_i 758 (by decide +kernel) rfl, gt_i 759 (by decide +kernel) rfl, gt_i 61 (by decide +kernel) rfl, ⟨⟨by decide, by decide, by decide +kernel⟩, by decide⟩⟩
abbrev YX5_forceOf : gY := (yX5_forceOf, cX5_forceOf, 6, (some .int))
theorem kX5_forceOf : kV YX5_forceOf 3 := ⟨gt_i 768 (by decide +kernel) rfl, gt_i 767 (by decide +kernel) rfl, gt_i 24 (by decide +kernel) rfl, gt_i 61 (by decide +kernel) rfl, ⟨⟨by decide, by decide, by decide +kernel⟩, by decide⟩⟩
abbrev YX5_from : gY := (yX5_from, cX5_from, 3, (some .int))
theorem kX5_from : kV YX5_from 1 := ⟨gt_i 984 (by decide +kernel) rfl, gt_i 982 (by decide +kernel) rfl, gt_i 983 (by decide +kernel) rfl, gt_i 61 (by decide +kernel) rfl, ⟨⟨by decide, by decide, by decide +kernel⟩, by decide⟩⟩
abbrev YX5_full : gY := (yX5_full, cX5_full, 1, (some .int))
theorem kX5_full : kV YX5_full 0 := ⟨gt_i 725 (by decide +kernel) rfl, gt_i 724 (by decide +kernel) rfl, gt_i 19 (by decide +kernel) rfl, gt_i 61 (by decide +kernel) rfl, ⟨⟨by decide, by decide, by decide +kernel⟩, by decide⟩⟩
abbrev YX5_goOn : gY := (yX5_goOn, cX5_goOn, 1, none)
theorem kX5_goOn : kV YX5_goOn 0 := ⟨gt_i 960 (by decide +kernel) rfl, gt_i 959 (by decide +kernel) rfl, gt_i 48 (by decide +kernel) rfl, gt_i 61 (by decide +kernel) rfl, ⟨⟨by decide, by decide, by decide +kernel⟩, by decide⟩⟩
abbrev YX5_goYear : gY := (yX5_goYear, cX5_goYear, 5, (some .int))
theorem kX5_goYear : kV YX5_goYear 1 := ⟨gt_i 903 (by decide +kernel) rfl, gt_i 902 (by decide +kernel) rfl, gt_i 43 (by decide +kernel) rfl, gt_i 61 (by decide +kernel) rfl, ⟨⟨by decide, by decide, by decide +kernel⟩, by decide⟩⟩
abbrev YX5_hits : gY := (yX5_hits, cX5_hits, 3, (some .int))
theorem kX5_hits : kV YX5_hits 2 := ⟨gt_i 800 (by decide +kernel) rfl, gt_i 799 (by decide +kernel) rfl, gt_i 31 (by decide +kernel) rfl, gt_i 61 (by decide +kernel) rfl, ⟨⟨by decide, by decide, by decide +kernel⟩, by decide⟩⟩
abbrev YX5_image : gY := (yX5_image, cX5_image, 3, (some .int))
theorem kX5_image : kV YX5_image 1 := ⟨gt_i 980 (by decide +kernel) rfl, gt_i 978 (by decide +kernel) rfl, gt_i 979 (by decide +kernel) rfl, gt_i 61 (by decide +kernel) rfl, ⟨⟨by decide, by decide, by decide +kernel⟩, by decide⟩⟩
abbrev YX5_in : gY := (yX5_in, cX5_in, 6, (some .boolean))
theorem kX5_in : kS YX5_in 3 := ⟨gt_i 712 (by decide +kernel) rfl, gt_i 711 (by decide +kernel) rfl, gt_i 61 (by decide +kernel) rfl, ⟨⟨by decide, by decide, by decide +kernel⟩, by decide⟩⟩
abbrev YX5_isFigure : gY := (yX5_isFigure, cX5_isFigure, 1, (some .boolean))
theorem kX5_isFigure : kS YX5_isFigure 1 := ⟨gt_i 942 (by decide +kernel) rfl, gt_i 941 (by decide +kernel) rfl, gt_i 61 (by decide +kernel) rfl, ⟨⟨by decide, by decide, by decide +kernel⟩, by decide⟩⟩
abbrev YX5_isRoof : gY := (yX5_isRoof, cX5_isRoof, 2, (some .boolean))
theorem kX5_isRoof : kV YX5_isRoof 1 := ⟨gt_i 756 (by decide +kernel) rfl, gt_i 755 (by decide +kernel) rfl, gt_i 22 (by decide +kernel) rfl, gt_i 61 (by decide +kernel) rfl, ⟨⟨by decide, by decide, by decide +kernel⟩, by decide⟩⟩
abbrev YX5_isRoofTold : gY := (yX5_isRoofTold, cX5_isRoofTold, 7, (some .boolean))
theorem kX5_isRoofTold : kS YX5_isRoofTold 6 := ⟨gt_i 708 (by decide +kernel) rfl, gt_i 707 (by decide +kernel) rfl, gt_i 61 (by decide +kernel) rfl, ⟨⟨by decide, by decide, by decide +kernel⟩, by decide⟩⟩
abbrev YX5_isSmall : gY := (yX5_isSmall, cX5_isSmall, 1, (some .boolean))
theorem kX5_isSmall : kS YX5_isSmall 1 := ⟨gt_i 937 (by decide +kernel) rfl, gt_i 936 (by decide +kernel) rfl, gt_i 61 (by decide +kernel) rfl, ⟨⟨by decide, by decide, by decide +kernel⟩, by decide⟩⟩
abbrev YX5_isStorm : gY := (yX5_isStorm, cX5_isStorm, 2, (some .boolean))
theorem kX5_isStorm : kV YX5_isStorm 1 := ⟨gt_i 764 (by decide +kernel) rfl, gt_i 763 (by decide +kernel) rfl, gt_i 23 (by decide +kernel) rfl, gt_i 61 (by decide +kernel) rfl, ⟨⟨by decide, by decide, by decide +kernel⟩, by decide⟩⟩
abbrev YX5_isTold : gY := (yX5_isTold, cX5_isTold, 2, (some .boolean))
theorem kX5_isTold : kV YX5_isTold 1 := ⟨gt_i 879 (by decide +kernel) rfl, gt_i 878 (by decide +kernel) rfl, gt_i 40 (by decide +kernel) rfl, gt_i 61 (by decide +kernel) rfl, ⟨⟨by decide, by decide, by decide +kernel⟩, by decide⟩⟩
abbrev YX5_isWord : gY := (yX5_isWord, cX5_isWord, 10, (some .boolean))
theorem kX5_isWord : kV YX5_isWord 6 := ⟨gt_i 952 (by decide +kernel) rfl, gt_i 951 (by decide +kernel) rfl, gt_i 46 (by decide +kernel) rfl, gt_i 61 (by decide +kernel) rfl, ⟨⟨by decide, by decide, by decide +kernel⟩, by decide⟩⟩
abbrev YX5_keepYear : gY := (yX5_keepYear, cX5_keepYear, 3, none)
theorem kX5_keepYear : kV YX5_keepYear 0 := ⟨gt_i 899 (by decide +kernel) rfl, gt_i 898 (by decide +kernel) rfl, gt_i 42 (by decide +kernel) rfl, gt_i 61 (by decide +kernel) rfl, ⟨⟨by decide, by decide, by decide +kernel⟩, by decide⟩⟩
abbrev YX5_layRoof : gY := (yX5_layRoof, cX5_layRoof, 9, none)
theorem kX5_layRoof : kS YX5_layRoof 8 := ⟨gt_i 728 (by decide +kernel) rfl, gt_i 727 (by decide +kernel) rfl, gt_i 61 (by decide +kernel) rfl, ⟨⟨by decide, by decide, by decide +kernel⟩, by decide⟩⟩
abbrev YX5_layStorm : gY := (yX5_layStorm, cX5_layStorm, 8, none)
theorem kX5_layStorm : kS YX5_layStorm 7 := ⟨gt_i 740 (by decide +kernel) rfl, gt_i 739 (by decide +kernel) rfl, gt_i 61 (by decide +kernel) rfl, ⟨⟨by decide, by decide, by decide +kernel⟩, by decide⟩⟩
abbrev YX5_leastOver : gY := (yX5_leastOver, cX5_leastOver, 4, (some .int))
theorem kX5_leastOver : kV YX5_leastOver 0 := ⟨gt_i 850 (by decide +kernel) rfl, gt_i 849 (by decide +kernel) rfl, gt_i 38 (by decide +kernel) rfl, gt_i 61 (by decide +kernel) rfl, ⟨⟨by decide, by decide, by decide +kernel⟩, by decide⟩⟩
abbrev YX5_look : gY := (yX5_look, cX5_look, 5, none)
theorem kX5_look : kV YX5_look 1 := ⟨gt_i 934 (by decide +kernel) rfl, gt_i 933 (by decide +kernel) rfl, gt_i 44 (by decide +kernel) rfl, gt_i 61 (by decide +kernel) rfl, ⟨⟨by decide, by decide, by decide +kernel⟩, by decide⟩⟩
abbrev YX5_no : gY := (yX5_no, cX5_no, 2, (some .int))
theorem kX5_no : kV YX5_no 1 := ⟨gt_i 748 (by decide +kernel) rfl, gt_i 747 (by decide +kernel) rfl, gt_i 21 (by decide +kernel) rfl, gt_i 61 (by decide +kernel) rfl, ⟨⟨by decide, by decide, by decide +kernel⟩, by decide⟩⟩
abbrev YX5_odds : gY := (yX5_odds, cX5_odds, 2, (some .int))
theorem kX5_odds : kV YX5_odds 1 := ⟨gt_i 812 (by decide +kernel) rfl, gt_i 810 (by decide +kernel) rfl, gt_i 811 (by decide +kernel) rfl, gt_i 61 (by decide +kernel) rfl, ⟨⟨by decide, by decide, by decide +kernel⟩, by decide⟩⟩
abbrev YX5_of : gY := (yX5_of, cX5_of, 3, (some .int))
theorem kX5_of : kV YX5_of 2 := ⟨gt_i 772 (by decide +kernel) rfl, gt_i 771 (by decide +kernel) rfl, gt_i 25 (by decide +kernel) rfl, gt_i 61 (by decide +kernel) rfl, ⟨⟨by decide, by decide, by decide +kernel⟩, by decide⟩⟩
abbrev YX5_paint : gY := (yX5_paint, cX5_paint, 3, (some .int))
theorem kX5_paint : kV YX5_paint 2 := ⟨gt_i 829 (by decide +kernel) rfl, gt_i 827 (by decide +kernel) rfl, gt_i 828 (by decide +kernel) rfl, gt_i 61 (by decide +kernel) rfl, ⟨⟨by decide, by decide, by decide +kernel⟩, by decide⟩⟩
abbrev YX5_part : gY := (yX5_part, cX5_part, 2, (some .long))
theorem kX5_part : kV YX5_part 1 := ⟨gt_i 976 (by decide +kernel) rfl, gt_i 974 (by decide +kernel) rfl, gt_i 975 (by decide +kernel) rfl, gt_i 61 (by decide +kernel) rfl, ⟨⟨by decide, by decide, by decide +kernel⟩, by decide⟩⟩
abbrev YX5_power : gY := (yX5_power, cX5_power, 5, (some .int))
theorem kX5_power : kV YX5_power 1 := ⟨gt_i 862 (by decide +kernel) rfl, gt_i 860 (by decide +kernel) rfl, gt_i 861 (by decide +kernel) rfl, gt_i 61 (by decide +kernel) rfl, ⟨⟨by decide, by decide, by decide +kernel⟩, by decide⟩⟩
abbrev YX5_read : gY := (yX5_read, cX5_read, 3, (some .int))
theorem kX5_read : kV YX5_read 0 := ⟨gt_i 930 (by decide +kernel) rfl, gt_i 928 (by decide +kernel) rfl, gt_i 929 (by decide +kernel) rfl, gt_i 61 (by decide +kernel) rfl, ⟨⟨by decide, by decide, by decide +kernel⟩, by decide⟩⟩
abbrev YX5_readsCannon : gY := (yX5_readsCannon, cX5_readsCannon, 1, (some .boolean))
theorem kX5_readsCannon : kV YX5_readsCannon 0 := ⟨gt_i 972 (by decide +kernel) rfl, gt_i 971 (by decide +kernel) rfl, gt_i 51 (by decide +kernel) rfl, gt_i 61 (by decide +kernel) rfl, ⟨⟨by decide, by decide, by decide +kernel⟩, by decide⟩⟩
abbrev YX5_readsItem : gY := (yX5_readsItem, cX5_readsItem, 1, (some .boolean))
theorem kX5_readsItem : kV YX5_readsItem 0 := ⟨gt_i 948 (by decide +kernel) rfl, gt_i 947 (by decide +kernel) rfl, gt_i 45 (by decide +kernel) rfl, gt_i 61 (by decide +kernel) rfl, ⟨⟨by decide, by decide, by decide +kernel⟩, by decide⟩⟩
abbrev YX5_readsRoof : gY := (yX5_readsRoof, cX5_readsRoof, 4, (some .boolean))
theorem kX5_readsRoof : kV YX5_readsRoof 0 := ⟨gt_i 956 (by decide +kernel) rfl, gt_i 955 (by decide +kernel) rfl, gt_i 47 (by decide +kernel) rfl, gt_i 61 (by decide +kernel) rfl, ⟨⟨by decide, by decide, by decide +kernel⟩, by decide⟩⟩
abbrev YX5_readsStorm : gY := (yX5_readsStorm, cX5_readsStorm, 2, (some .boolean))
theorem kX5_readsStorm : kV YX5_readsStorm 0 := ⟨gt_i 968 (by decide +kernel) rfl, gt_i 967 (by decide +kernel) rfl, gt_i 50 (by decide +kernel) rfl, gt_i 61 (by decide +kernel) rfl, ⟨⟨by decide, by decide, by decide +kernel⟩, by decide⟩⟩
abbrev YX5_recount : gY := (yX5_recount, cX5_recount, 10, (some .int))
theorem kX5_recount : kV YX5_recount 2 := ⟨gt_i 887 (by decide +kernel) rfl, gt_i 885 (by decide +kernel) rfl, gt_i 886 (by decide +kernel) rfl, gt_i 61 (by decide +kernel) rfl, ⟨⟨by decide, by decide, by decide +kernel⟩, by decide⟩⟩
abbrev YX5_roof : gY := (yX5_roof, cX5_roof, 8, (some .int))
theorem kX5_roof : kV YX5_roof 6 := ⟨gt_i 705 (by decide +kernel) rfl, gt_i 703 (by decide +kernel) rfl, gt_i 704 (by decide +kernel) rfl, gt_i 61 (by decide +kernel) rfl, ⟨⟨by decide, by decide, by decide +kernel⟩, by decide⟩⟩
abbrev YX5_roofs : gY := (yX5_roofs, cX5_roofs, 1, (some .int))
theorem kX5_roofs : kV YX5_roofs 0 := ⟨gt_i 721 (by decide +kernel) rfl, gt_i 720 (by decide +kernel) rfl, gt_i 18 (by decide +kernel) rfl, gt_i 61 (by decide +kernel) rfl, ⟨⟨by decide, by decide, by decide +kernel⟩, by decide⟩⟩
abbrev YX5_shards : gY := (yX5_shards, cX5_shards, 5, (some .int))
theorem kX5_shards : kV YX5_shards 3 := ⟨gt_i 870 (by decide +kernel) rfl, gt_i 868 (by decide +kernel) rfl, gt_i 869 (by decide +kernel) rfl, gt_i 61 (by decide +kernel) rfl, ⟨⟨by decide, by decide, by decide +kernel⟩, by decide⟩⟩
abbrev YX5_shield : gY := (yX5_shield, cX5_shield, 6, (some .int))
theorem kX5_shield : kV YX5_shield 1 := ⟨gt_i 866 (by decide +kernel) rfl, gt_i 864 (by decide +kernel) rfl, gt_i 865 (by decide +kernel) rfl, gt_i 61 (by decide +kernel) rfl, ⟨⟨by decide, by decide, by decide +kernel⟩, by decide⟩⟩
abbrev YX5_status : gY := (yX5_status, cX5_status, 2, (some .int))
theorem kX5_status : kV YX5_status 1 := ⟨gt_i 988 (by decide +kernel) rfl, gt_i 986 (by decide +kernel) rfl, gt_i 987 (by decide +kernel) rfl, gt_i 61 (by decide +kernel) rfl, ⟨⟨by decide, by decide, by decide +kernel⟩, by decide⟩⟩
abbrev YX5_storm : gY := (yX5_storm, cX5_storm, 7, (some .int))
theorem kX5_storm : kV YX5_storm 5 := ⟨gt_i 732 (by decide +kernel) rfl, gt_i 730 (by decide +kernel) rfl, gt_i 731 (by decide +kernel) rfl, gt_i 61 (by decide +kernel) rfl, ⟨⟨by decide, by decide, by decide +kernel⟩, by decide⟩⟩
abbrev YX5_storms : gY := (yX5_storms, cX5_storms, 1, (some .int))
theorem kX5_storms : kV YX5_storms 0 := ⟨gt_i 737 (by decide +kernel) rfl, gt_i 736 (by decide +kernel) rfl, gt_i 20 (by decide +kernel) rfl, gt_i 61 (by decide +kernel) rfl, ⟨⟨by decide, by decide, by decide +kernel⟩, by decide⟩⟩
abbrev YX5_sums : gY := (yX5_sums, cX5_sums, 8, (some .long))
theorem kX5_sums : kV YX5_sums 3 := ⟨gt_i 1010 (by decide +kernel) rfl, gt_i 1009 (by decide +kernel) rfl, gt_i 54 (by decide +kernel) rfl, gt_i 61 (by decide +kernel) rfl, ⟨⟨by decide, by decide, by decide +kernel⟩, by decide⟩⟩
abbrev YX5_takeNow : gY := (yX5_takeNow, cX5_takeNow, 3, none)
theorem kX5_takeNow : kV YX5_takeNow 0 := ⟨gt_i 784 (by decide +kernel) rfl, gt_i 783 (by decide +kernel) rfl, gt_i 27 (by decide +kernel) rfl, gt_i 61 (by decide +kernel) rfl, ⟨⟨by decide, by decide, by decide +kernel⟩, by decide⟩⟩
abbrev YX5_takes : gY := (yX5_takes, cX5_takes, 4, (some .boolean))
theorem kX5_takes : kV YX5_takes 3 := ⟨gt_i 964 (by decide +kernel) rfl, gt_i 963 (by decide +kernel) rfl, gt_i 49 (by decide +kernel) rfl, gt_i 61 (by decide +kernel) rfl, ⟨⟨by decide, by decide, by decide +kernel⟩, by decide⟩⟩
abbrev YX5_tell : gY := (yX5_tell, cX5_tell, 11, (some .int))
theorem kX5_tell : kV YX5_tell 2 := ⟨gt_i 825 (by decide +kernel) rfl, gt_i 824 (by decide +kernel) rfl, gt_i 35 (by decide +kernel) rfl, gt_i 61 (by decide +kernel) rfl, ⟨⟨by decide, by decide, by decide +kernel⟩, by decide⟩⟩
abbrev YX5_tiles : gY := (yX5_tiles, cX5_tiles, 4, (some .int))
theorem kX5_tiles : kV YX5_tiles 3 := ⟨gt_i 752 (by decide +kernel) rfl, gt_i 750 (by decide +kernel) rfl, gt_i 751 (by decide +kernel) rfl, gt_i 61 (by decide +kernel) rfl, ⟨⟨by decide, by decide, by decide +kernel⟩, by decide⟩⟩
abbrev YX5_type : gY := (yX5_type, cX5_type, 5, (some .int))
theorem kX5_type : kV YX5_type 2 := ⟨gt_i 921 (by decide +kernel) rfl, gt_i 919 (by decide +kernel) rfl, gt_i 920 (by decide +kernel) rfl, gt_i 61 (by decide +kernel) rfl, ⟨⟨by decide, by decide, by decide +kernel⟩, by decide⟩⟩
abbrev YX5_undo : gY := (yX5_undo, cX5_undo, 3, (some .int))
theorem kX5_undo : kV YX5_undo 0 := ⟨gt_i 907 (by decide +kernel) rfl, gt_i 905 (by decide +kernel) rfl, gt_i 906 (by decide +kernel) rfl, gt_i 61 (by decide +kernel) rfl, ⟨⟨by decide, by decide, by decide +kernel⟩, by decide⟩⟩
abbrev YX5_which : gY := (yX5_which, cX5_which, 7, (some .int))
theorem kX5_which : kV YX5_which 1 := ⟨gt_i 875 (by decide +kernel) rfl, gt_i 873 (by decide +kernel) rfl, gt_i 874 (by decide +kernel) rfl, gt_i 61 (by decide +kernel) rfl, ⟨⟨by decide, by decide, by decide +kernel⟩, by decide⟩⟩
abbrev YX5_winner : gY := (yX5_winner, cX5_winner, 4, (some .int))
theorem kX5_winner : kV YX5_winner 1 := ⟨gt_i 808 (by decide +kernel) rfl, gt_i 807 (by decide +kernel) rfl, gt_i 32 (by decide +kernel) rfl, gt_i 61 (by decide +kernel) rfl, ⟨⟨by decide, by decide, by decide +kernel⟩, by decide⟩⟩
abbrev YX5_wins : gY := (yX5_wins, cX5_wins, 2, (some .int))
theorem kX5_wins : kV YX5_wins 1 := ⟨gt_i 804 (by decide +kernel) rfl, gt_i 802 (by decide +kernel) rfl, gt_i 803 (by decide +kernel) rfl, gt_i 61 (by decide +kernel) rfl, ⟨⟨by decide, by decide, by decide +kernel⟩, by decide⟩⟩
abbrev YX5_year : gY := (yX5_year, cX5_year, 5, (some .int))
theorem kX5_year : kV YX5_year 1 := ⟨gt_i 895 (by decide +kernel) rfl, gt_i 893 (by decide +kernel) rfl, gt_i 894 (by decide +kernel) rfl, gt_i 61 (by decide +kernel) rfl, ⟨⟨by decide, by decide, by decide +kernel⟩, by decide⟩⟩
end
section
/-! cantons, stories, arrays: which cells they are -/
def cn (c : Nat) : Prop := c ∈ cnL
def sn (c : Nat) : Prop := c = 1 ∨ c = 51 ∨ c = 101
theorem cn_all {p : Nat → Bool} (h : cnL.all p = true) {c : Nat} (hc : cn c) : p c = true := List.all_eq_true.mp h c hc
theorem cnO {c : Nat} (hc : cn c) : obj c 0 := by
  have h := cn_all (p := fun c => decide (c < 180) && decide (sh c = 0)) (by decide) hc
  simp only [Bool.and_eq_true, decide_eq_true_eq] at h
  exact ⟨h.1, h.2, by decide⟩
theorem cA_kind {c : Nat} (hc : cn c) : arr (c + 1) 7 := by
  have h := cn_all (p := fun c => decide (c + 1 < 180) && (decide (sh (c + 1) = 6) && decide (ln (c + 1) = 7))) (by decide) hc
  simp only [Bool.and_eq_true, decide_eq_true_eq] at h
  exact ⟨h.1, h.2.1, h.2.2, by decide⟩
theorem cA_age {c : Nat} (hc : cn c) : arr (c + 2) 7 := by
  have h := cn_all (p := fun c => decide (c + 2 < 180) && (decide (sh (c + 2) = 6) && decide (ln (c + 2) = 7))) (by decide) hc
  simp only [Bool.and_eq_true, decide_eq_true_eq] at h
  exact ⟨h.1, h.2.1, h.2.2, by decide⟩
theorem cA_cover {c : Nat} (hc : cn c) : arr (c + 3) 28 := by
  have h := cn_all (p := fun c => decide (c + 3 < 180) && (decide (sh (c + 3) = 6) && decide (ln (c + 3) = 28))) (by decide) hc
  simp only [Bool.and_eq_true, decide_eq_true_eq] at h
  exact ⟨h.1, h.2.1, h.2.2, by decide⟩
theorem cA_blue {c : Nat} (hc : cn c) : arr (c + 4) 7 := by
  have h := cn_all (p := fun c => decide (c + 4 < 180) && (decide (sh (c + 4) = 6) && decide (ln (c + 4) = 7))) (by decide) hc
  simp only [Bool.and_eq_true, decide_eq_true_eq] at h
  exact ⟨h.1, h.2.1, h.2.2, by decide⟩
theorem cA_brown {c : Nat} (hc : cn c) : arr (c + 5) 7 := by
  have h := cn_all (p := fun c => decide (c + 5 < 180) && (decide (sh (c + 5) = 6) && decide (ln (c + 5) = 7))) (by decide) hc
  simp only [Bool.and_eq_true, decide_eq_true_eq] at h
  exact ⟨h.1, h.2.1, h.2.2, by decide⟩
theorem cA_first {c : Nat} (hc : cn c) : arr (c + 6) 6 := by
  have h := cn_all (p := fun c => decide (c + 6 < 180) && (decide (sh (c + 6) = 6) && decide (ln (c + 6) = 6))) (by decide) hc
  simp only [Bool.and_eq_true, decide_eq_true_eq] at h
  exact ⟨h.1, h.2.1, h.2.2, by decide⟩
theorem cA_last {c : Nat} (hc : cn c) : arr (c + 7) 6 := by
  have h := cn_all (p := fun c => decide (c + 7 < 180) && (decide (sh (c + 7) = 6) && decide (ln (c + 7) = 6))) (by decide) hc
  simp only [Bool.and_eq_true, decide_eq_true_eq] at h
  exact ⟨h.1, h.2.1, h.2.2, by decide⟩
theorem cA_wind {c : Nat} (hc : cn c) : arr (c + 8) 6 := by
  have h := cn_all (p := fun c => decide (c + 8 < 180) && (decide (sh (c + 8) = 6) && decide (ln (c + 8) = 6))) (by decide) hc
  simp only [Bool.and_eq_true, decide_eq_true_eq] at h
  exact ⟨h.1, h.2.1, h.2.2, by decide⟩
theorem cA_size {c : Nat} (hc : cn c) : arr (c + 9) 6 := by
  have h := cn_all (p := fun c => decide (c + 9 < 180) && (decide (sh (c + 9) = 6) && decide (ln (c + 9) = 6))) (by decide) hc
  simp only [Bool.and_eq_true, decide_eq_true_eq] at h
  exact ⟨h.1, h.2.1, h.2.2, by decide⟩
theorem cA_chance {c : Nat} (hc : cn c) : arr (c + 10) 6 := by
  have h := cn_all (p := fun c => decide (c + 10 < 180) && (decide (sh (c + 10) = 6) && decide (ln (c + 10) = 6))) (by decide) hc
  simp only [Bool.and_eq_true, decide_eq_true_eq] at h
  exact ⟨h.1, h.2.1, h.2.2, by decide⟩
theorem cA_guns {c : Nat} (hc : cn c) : arr (c + 11) 7 := by
  have h := cn_all (p := fun c => decide (c + 11 < 180) && (decide (sh (c + 11) = 6) && decide (ln (c + 11) = 7))) (by decide) hc
  simp only [Bool.and_eq_true, decide_eq_true_eq] at h
  exact ⟨h.1, h.2.1, h.2.2, by decide⟩
theorem ar_152 : arr 152 250 := ⟨by decide, by decide, by decide, by decide⟩
theorem ar_153 : arr 153 6 := ⟨by decide, by decide, by decide, by decide⟩
theorem ar_168 : arr 168 382 := ⟨by decide, by decide, by decide, by decide⟩
theorem ar_169 : arr 169 764 := ⟨by decide, by decide, by decide, by decide⟩
theorem ar_171 : arr 171 3 := ⟨by decide, by decide, by decide, by decide⟩
theorem ar_172 : arr 172 28 := ⟨by decide, by decide, by decide, by decide⟩
theorem ar_173 : arr 173 7 := ⟨by decide, by decide, by decide, by decide⟩
theorem ar_174 : arr 174 14 := ⟨by decide, by decide, by decide, by decide⟩
theorem ar_175 : arr 175 14 := ⟨by decide, by decide, by decide, by decide⟩
theorem ar_177 : arr 177 250 := ⟨by decide, by decide, by decide, by decide⟩
theorem ar_178 : arr 178 95 := ⟨by decide, by decide, by decide, by decide⟩
theorem ar_179 : arr 179 6 := ⟨by decide, by decide, by decide, by decide⟩
theorem ar_170 : arZ 170 2 := ⟨by decide, by decide, by decide, by decide⟩
theorem ar_176 : arZ 176 6 := ⟨by decide, by decide, by decide, by decide⟩
theorem ob_0 : obj 0 4 := ⟨by decide, by decide, by decide⟩
theorem ob_151 : obj 151 2 := ⟨by decide, by decide, by decide⟩
theorem ob_154 : obj 154 1 := ⟨by decide, by decide, by decide⟩
theorem ob_167 : obj 167 5 := ⟨by decide, by decide, by decide⟩
theorem snO {c : Nat} (h : sn c) : obj c 3 := by
  rcases h with rfl | rfl | rfl <;> exact ⟨by decide, by decide, by decide⟩
theorem snP {c : Nat} (h : sn c) : arP (c + 1) := by
  rcases h with rfl | rfl | rfl <;> exact ⟨by decide, by decide, by decide⟩
theorem snC {c : Nat} (h : sn c) : cn (c + 2) := by
  rcases h with rfl | rfl | rfl <;> (unfold cn; decide)
theorem cn155 : cn 155 := by unfold cn; decide
theorem sn1 : sn 1 := Or.inl rfl
theorem sn51 : sn 51 := Or.inr (Or.inl rfl)
theorem sn101 : sn 101 := Or.inr (Or.inr rfl)
theorem cn3 : cn 3 := by unfold cn; decide
/-- what every canton keeps to -/
def CI (μ : gM) (c : Nat) : Prop := (0 ≤ μ c 0 ∧ μ c 0 ≤ 7) ∧ (0 ≤ μ c 1 ∧ μ c 1 ≤ 6) ∧ (∀ k, 0 ≤ μ (c + 1) k ∧ μ (c + 1) k ≤ 5) ∧ (∀ k, 0 ≤ μ (c + 2) k ∧ μ (c + 2) k ≤ 9) ∧ (∀ k, 0 ≤ μ (c + 3) k ∧ μ (c + 3) k ≤ 20) ∧ (∀ k, -1 ≤ μ (c + 4) k ∧ μ (c + 4) k ≤ 18) ∧ (∀ k, -1 ≤ μ (c + 5) k ∧ μ (c + 5) k ≤ 18) ∧ (∀ k, 0 ≤ μ (c + 6) k ∧ μ (c + 6) k ≤ 6) ∧ (∀ k, 0 ≤ μ (c + 7) k ∧ μ (c + 7) k ≤ 6) ∧ (∀ k, 0 ≤ μ (c + 8) k ∧ μ (c + 8) k ≤ 1) ∧ (∀ k, 0 ≤ μ (c + 9) k ∧ μ (c + 9) k ≤ 9) ∧ (∀ k, 0 ≤ μ (c + 10) k ∧ μ (c + 10) k ≤ 9) ∧ (∀ k, 0 ≤ μ (c + 11) k ∧ μ (c + 11) k ≤ 1)
theorem CI_roofs {μ : gM} {c : Nat} (h : CI μ c) : 0 ≤ μ c 0 ∧ μ c 0 ≤ 7 := h.1
theorem CI_storms {μ : gM} {c : Nat} (h : CI μ c) : 0 ≤ μ c 1 ∧ μ c 1 ≤ 6 := h.2.1
theorem CI_kind {μ : gM} {c : Nat} (h : CI μ c) : ∀ k, 0 ≤ μ (c + 1) k ∧ μ (c + 1) k ≤ 5 := h.2.2.1
theorem CI_age {μ : gM} {c : Nat} (h : CI μ c) : ∀ k, 0 ≤ μ (c + 2) k ∧ μ (c + 2) k ≤ 9 := h.2.2.2.1
theorem CI_cover {μ : gM} {c : Nat} (h : CI μ c) : ∀ k, 0 ≤ μ (c + 3) k ∧ μ (c + 3) k ≤ 20 := h.2.2.2.2.1
theorem CI_blue {μ : gM} {c : Nat} (h : CI μ c) : ∀ k, -1 ≤ μ (c + 4) k ∧ μ (c + 4) k ≤ 18 := h.2.2.2.2.2.1
theorem CI_brown {μ : gM} {c : Nat} (h : CI μ c) : ∀ k, -1 ≤ μ (c + 5) k ∧ μ (c + 5) k ≤ 18 := h.2.2.2.2.2.2.1
theorem CI_first {μ : gM} {c : Nat} (h : CI μ c) : ∀ k, 0 ≤ μ (c + 6) k ∧ μ (c + 6) k ≤ 6 := h.2.2.2.2.2.2.2.1
theorem CI_last {μ : gM} {c : Nat} (h : CI μ c) : ∀ k, 0 ≤ μ (c + 7) k ∧ μ (c + 7) k ≤ 6 := h.2.2.2.2.2.2.2.2.1
theorem CI_wind {μ : gM} {c : Nat} (h : CI μ c) : ∀ k, 0 ≤ μ (c + 8) k ∧ μ (c + 8) k ≤ 1 := h.2.2.2.2.2.2.2.2.2.1
theorem CI_size {μ : gM} {c : Nat} (h : CI μ c) : ∀ k, 0 ≤ μ (c + 9) k ∧ μ (c + 9) k ≤ 9 := h.2.2.2.2.2.2.2.2.2.2.1
theorem CI_chance {μ : gM} {c : Nat} (h : CI μ c) : ∀ k, 0 ≤ μ (c + 10) k ∧ μ (c + 10) k ≤ 9 := h.2.2.2.2.2.2.2.2.2.2.2.1
theorem CI_guns {μ : gM} {c : Nat} (h : CI μ c) : ∀ k, 0 ≤ μ (c + 11) k ∧ μ (c + 11) k ≤ 1 := h.2.2.2.2.2.2.2.2.2.2.2.2
theorem w_cV0 {g : gG} {l : Launch} {Y : gY} {d : Nat} {post : gQ} {pc : Nat} {lv : List (Option gA)} {st : List gA} {μ : gM} {Yc : gY} {dc idx b ci N : Nat} {T : u_T} {q : gQ} (hk : kV Yc 0) (hl : Cond.methodLink Y.1.cls idx Yc.1 ∈ lw_gt) (ho : obj b ci) (hcl : vwCl[ci]? = some (Yc.1.cls, T, N)) (hst : (st.map gcat).sum ≤ 8) (hdd : dc + 1 ≤ d) (hd : decode Y.2.1 pc = .ok (.invokevirtual idx, 3)) (hC : CT g l Yc dc [vR b] μ q) (kk : ∀ (r : Option gA) (μ' : gM), q r μ' → WA g l Y d post (pc + 3) lv (r.toList ++ st) μ') : WA g l Y d post pc lv (vR b :: st) μ := w_callV (as := []) hk hl ho hcl rfl hst hdd hd hC kk
theorem w_cV1 {g : gG} {l : Launch} {Y : gY} {d : Nat} {post : gQ} {pc : Nat} {lv : List (Option gA)} {st : List gA} {μ : gM} {Yc : gY} {dc idx b ci N : Nat} {T : u_T} {a1 : gA} {q : gQ} (hk : kV Yc 1) (hl : Cond.methodLink Y.1.cls idx Yc.1 ∈ lw_gt) (ho : obj b ci) (hcl : vwCl[ci]? = some (Yc.1.cls, T, N)) (hst : (st.map gcat).sum ≤ 8) (hdd : dc + 1 ≤ d) (hd : decode Y.2.1 pc = .ok (.invokevirtual idx, 3)) (hC : CT g l Yc dc [vR b, a1] μ q) (kk : ∀ (r : Option gA) (μ' : gM), q r μ' → WA g l Y d post (pc + 3) lv (r.toList ++ st) μ') : WA g l Y d post pc lv (a1 :: vR b :: st) μ := w_callV (as := [a1]) hk hl ho hcl rfl hst hdd hd hC kk
theorem w_cS1 {g : gG} {l : Launch} {Y : gY} {d : Nat} {post : gQ} {pc : Nat} {lv : List (Option gA)} {st : List gA} {μ : gM} {Yc : gY} {dc idx : Nat} {a1 : gA} {q : gQ} (hk : kS Yc 1) (hl : Cond.methodLink Y.1.cls idx Yc.1 ∈ lw_gt) (hst : (st.map gcat).sum ≤ 8) (hdd : dc + 1 ≤ d) (hd : decode Y.2.1 pc = .ok (.invokestatic idx, 3)) (hC : CT g l Yc dc [a1] μ q) (kk : ∀ (r : Option gA) (μ' : gM), q r μ' → WA g l Y d post (pc + 3) lv (r.toList ++ st) μ') : WA g l Y d post pc lv (a1 :: st) μ := w_callS (as := [a1]) hk hl rfl hst hdd hd hC kk
theorem w_cV2 {g : gG} {l : Launch} {Y : gY} {d : Nat} {post : gQ} {pc : Nat} {lv : List (Option gA)} {st : List gA} {μ : gM} {Yc : gY} {dc idx b ci N : Nat} {T : u_T} {a1 a2 : gA} {q : gQ} (hk : kV Yc 2) (hl : Cond.methodLink Y.1.cls idx Yc.1 ∈ lw_gt) (ho : obj b ci) (hcl : vwCl[ci]? = some (Yc.1.cls, T, N)) (hst : (st.map gcat).sum ≤ 8) (hdd : dc + 1 ≤ d) (hd : decode Y.2.1 pc = .ok (.invokevirtual idx, 3)) (hC : CT g l Yc dc [vR b, a1, a2] μ q) (kk : ∀ (r : Option gA) (μ' : gM), q r μ' → WA g l Y d post (pc + 3) lv (r.toList ++ st) μ') : WA g l Y d post pc lv (a2 :: a1 :: vR b :: st) μ := w_callV (as := [a1, a2]) hk hl ho hcl rfl hst hdd hd hC kk
theorem w_cS2 {g : gG} {l : Launch} {Y : gY} {d : Nat} {post : gQ} {pc : Nat} {lv : List (Option gA)} {st : List gA} {μ : gM} {Yc : gY} {dc idx : Nat} {a1 a2 : gA} {q : gQ} (hk : kS Yc 2) (hl : Cond.methodLink Y.1.cls idx Yc.1 ∈ lw_gt) (hst : (st.map gcat).sum ≤ 8) (hdd : dc + 1 ≤ d) (hd : decode Y.2.1 pc = .ok (.invokestatic idx, 3)) (hC : CT g l Yc dc [a1, a2] μ q) (kk : ∀ (r : Option gA) (μ' : gM), q r μ' → WA g l Y d post (pc + 3) lv (r.toList ++ st) μ') : WA g l Y d post pc lv (a2 :: a1 :: st) μ := w_callS (as := [a1, a2]) hk hl rfl hst hdd hd hC kk
theorem w_cV3 {g : gG} {l : Launch} {Y : gY} {d : Nat} {post : gQ} {pc : Nat} {lv : List (Option gA)} {st : List gA} {μ : gM} {Yc : gY} {dc idx b ci N : Nat} {T : u_T} {a1 a2 a3 : gA} {q : gQ} (hk : kV Yc 3) (hl : Cond.methodLink Y.1.cls idx Yc.1 ∈ lw_gt) (ho : obj b ci) (hcl : vwCl[ci]? = some (Yc.1.cls, T, N)) (hst : (st.map gcat).sum ≤ 8) (hdd : dc + 1 ≤ d) (hd : decode Y.2.1 pc = .ok (.invokevirtual idx, 3)) (hC : CT g l Yc dc [vR b, a1, a2, a3] μ q) (kk : ∀ (r : Option gA) (μ' : gM), q r μ' → WA g l Y d post (pc + 3) lv (r.toList ++ st) μ') : WA g l Y d post pc lv (a3 :: a2 :: a1 :: vR b :: st) μ := w_callV (as := [a1, a2, a3]) hk hl ho hcl rfl hst hdd hd hC kk
theorem w_cS3 {g : gG} {l : Launch} {Y : gY} {d : Nat} {post : gQ} {pc : Nat} {lv : List (Option gA)} {st : List gA} {μ : gM} {Yc : gY} {dc idx : Nat} {a1 a2 a3 : gA} {q : gQ} (hk : kS Yc 3) (hl : Cond.methodLink Y.1.cls idx Yc.1 ∈ lw_gt) (hst : (st.map gcat).sum ≤ 8) (hdd : dc + 1 ≤ d) (hd : decode Y.2.1 pc = .ok (.invokestatic idx, 3)) (hC : CT g l Yc dc [a1, a2, a3] μ q) (kk : ∀ (r : Option gA) (μ' : gM), q r μ' → WA g l Y d post (pc + 3) lv (r.toList ++ st) μ') : WA g l Y d post pc lv (a3 :: a2 :: a1 :: st) μ := w_callS (as := [a1, a2, a3]) hk hl rfl hst hdd hd hC kk
theorem w_cV4 {g : gG} {l : Launch} {Y : gY} {d : Nat} {post : gQ} {pc : Nat} {lv : List (Option gA)} {st : List gA} {μ : gM} {Yc : gY} {dc idx b ci N : Nat} {T : u_T} {a1 a2 a3 a4 : gA} {q : gQ} (hk : kV Yc 4) (hl : Cond.methodLink Y.1.cls idx Yc.1 ∈ lw_gt) (ho : obj b ci) (hcl : vwCl[ci]? = some (Yc.1.cls, T, N)) (hst : (st.map gcat).sum ≤ 8) (hdd : dc + 1 ≤ d) (hd : decode Y.2.1 pc = .ok (.invokevirtual idx, 3)) (hC : CT g l Yc dc [vR b, a1, a2, a3, a4] μ q) (kk : ∀ (r : Option gA) (μ' : gM), q r μ' → WA g l Y d post (pc + 3) lv (r.toList ++ st) μ') : WA g l Y d post pc lv (a4 :: a3 :: a2 :: a1 :: vR b :: st) μ := w_callV (as := [a1, a2, a3, a4]) hk hl ho hcl rfl hst hdd hd hC kk
theorem w_cS4 {g : gG} {l : Launch} {Y : gY} {d : Nat} {post : gQ} {pc : Nat} {lv : List (Option gA)} {st : List gA} {μ : gM} {Yc : gY} {dc idx : Nat} {a1 a2 a3 a4 : gA} {q : gQ} (hk : kS Yc 4) (hl : Cond.methodLink Y.1.cls idx Yc.1 ∈ lw_gt) (hst : (st.map gcat).sum ≤ 8) (hdd : dc + 1 ≤ d) (hd : decode Y.2.1 pc = .ok (.invokestatic idx, 3)) (hC : CT g l Yc dc [a1, a2, a3, a4] μ q) (kk : ∀ (r : Option gA) (μ' : gM), q r μ' → WA g l Y d post (pc + 3) lv (r.toList ++ st) μ') : WA g l Y d post pc lv (a4 :: a3 :: a2 :: a1 :: st) μ := w_callS (as := [a1, a2, a3, a4]) hk hl rfl hst hdd hd hC kk
theorem w_cV5 {g : gG} {l : Launch} {Y : gY} {d : Nat} {post : gQ} {pc : Nat} {lv : List (Option gA)} {st : List gA} {μ : gM} {Yc : gY} {dc idx b ci N : Nat} {T : u_T} {a1 a2 a3 a4 a5 : gA} {q : gQ} (hk : kV Yc 5) (hl : Cond.methodLink Y.1.cls idx Yc.1 ∈ lw_gt) (ho : obj b ci) (hcl : vwCl[ci]? = some (Yc.1.cls, T, N)) (hst : (st.map gcat).sum ≤ 8) (hdd : dc + 1 ≤ d) (hd : decode Y.2.1 pc = .ok (.invokevirtual idx, 3)) (hC : CT g l Yc dc [vR b, a1, a2, a3, a4, a5] μ q) (kk : ∀ (r : Option gA) (μ' : gM), q r μ' → WA g l Y d post (pc + 3) lv (r.toList ++ st) μ') : WA g l Y d post pc lv (a5 :: a4 :: a3 :: a2 :: a1 :: vR b :: st) μ := w_callV (as := [a1, a2, a3, a4, a5]) hk hl ho hcl rfl hst hdd hd hC kk
theorem w_cS5 {g : gG} {l : Launch} {Y : gY} {d : Nat} {post : gQ} {pc : Nat} {lv : List (Option gA)} {st : List gA} {μ : gM} {Yc : gY} {dc idx : Nat} {a1 a2 a3 a4 a5 : gA} {q : gQ} (hk : kS Yc 5) (hl : Cond.methodLink Y.1.cls idx Yc.1 ∈ lw_gt) (hst : (st.map gcat).sum ≤ 8) (hdd : dc + 1 ≤ d) (hd : decode Y.2.1 pc = .ok (.invokestatic idx, 3)) (hC : CT g l Yc dc [a1, a2, a3, a4, a5] μ q) (kk : ∀ (r : Option gA) (μ' : gM), q r μ' → WA g l Y d post (pc + 3) lv (r.toList ++ st) μ') : WA g l Y d post pc lv (a5 :: a4 :: a3 :: a2 :: a1 :: st) μ := w_callS (as := [a1, a2, a3, a4, a5]) hk hl rfl hst hdd hd hC kk
theorem w_cV6 {g : gG} {l : Launch} {Y : gY} {d : Nat} {post : gQ} {pc : Nat} {lv : List (Option gA)} {st : List gA} {μ : gM} {Yc : gY} {dc idx b ci N : Nat} {T : u_T} {a1 a2 a3 a4 a5 a6 : gA} {q : gQ} (hk : kV Yc 6) (hl : Cond.methodLink Y.1.cls idx Yc.1 ∈ lw_gt) (ho : obj b ci) (hcl : vwCl[ci]? = some (Yc.1.cls, T, N)) (hst : (st.map gcat).sum ≤ 8) (hdd : dc + 1 ≤ d) (hd : decode Y.2.1 pc = .ok (.invokevirtual idx, 3)) (hC : CT g l Yc dc [vR b, a1, a2, a3, a4, a5, a6] μ q) (kk : ∀ (r : Option gA) (μ' : gM), q r μ' → WA g l Y d post (pc + 3) lv (r.toList ++ st) μ') : WA g l Y d post pc lv (a6 :: a5 :: a4 :: a3 :: a2 :: a1 :: vR b :: st) μ := w_callV (as := [a1, a2, a3, a4, a5, a6]) hk hl ho hcl rfl hst hdd hd hC kk
theorem w_cS6 {g : gG} {l : Launch} {Y : gY} {d : Nat} {post : gQ} {pc : Nat} {lv : List (Option gA)} {st : List gA} {μ : gM} {Yc : gY} {dc idx : Nat} {a1 a2 a3 a4 a5 a6 : gA} {q : gQ} (hk : kS Yc 6) (hl : Cond.methodLink Y.1.cls idx Yc.1 ∈ lw_gt) (hst : (st.map gcat).sum ≤ 8) (hdd : dc + 1 ≤ d) (hd : decode Y.2.1 pc = .ok (.invokestatic idx, 3)) (hC : CT g l Yc dc [a1, a2, a3, a4, a5, a6] μ q) (kk : ∀ (r : Option gA) (μ' : gM), q r μ' → WA g l Y d post (pc + 3) lv (r.toList ++ st) μ') : WA g l Y d post pc lv (a6 :: a5 :: a4 :: a3 :: a2 :: a1 :: st) μ := w_callS (as := [a1, a2, a3, a4, a5, a6]) hk hl rfl hst hdd hd hC kk
theorem w_cS7 {g : gG} {l : Launch} {Y : gY} {d : Nat} {post : gQ} {pc : Nat} {lv : List (Option gA)} {st : List gA} {μ : gM} {Yc : gY} {dc idx : Nat} {a1 a2 a3 a4 a5 a6 a7 : gA} {q : gQ} (hk : kS Yc 7) (hl : Cond.methodLink Y.1.cls idx Yc.1 ∈ lw_gt) (hst : (st.map gcat).sum ≤ 8) (hdd : dc + 1 ≤ d) (hd : decode Y.2.1 pc = .ok (.invokestatic idx, 3)) (hC : CT g l Yc dc [a1, a2, a3, a4, a5, a6, a7] μ q) (kk : ∀ (r : Option gA) (μ' : gM), q r μ' → WA g l Y d post (pc + 3) lv (r.toList ++ st) μ') : WA g l Y d post pc lv (a7 :: a6 :: a5 :: a4 :: a3 :: a2 :: a1 :: st) μ := w_callS (as := [a1, a2, a3, a4, a5, a6, a7]) hk hl rfl hst hdd hd hC kk
theorem w_cS8 {g : gG} {l : Launch} {Y : gY} {d : Nat} {post : gQ} {pc : Nat} {lv : List (Option gA)} {st : List gA} {μ : gM} {Yc : gY} {dc idx : Nat} {a1 a2 a3 a4 a5 a6 a7 a8 : gA} {q : gQ} (hk : kS Yc 8) (hl : Cond.methodLink Y.1.cls idx Yc.1 ∈ lw_gt) (hst : (st.map gcat).sum ≤ 8) (hdd : dc + 1 ≤ d) (hd : decode Y.2.1 pc = .ok (.invokestatic idx, 3)) (hC : CT g l Yc dc [a1, a2, a3, a4, a5, a6, a7, a8] μ q) (kk : ∀ (r : Option gA) (μ' : gM), q r μ' → WA g l Y d post (pc + 3) lv (r.toList ++ st) μ') : WA g l Y d post pc lv (a8 :: a7 :: a6 :: a5 :: a4 :: a3 :: a2 :: a1 :: st) μ := w_callS (as := [a1, a2, a3, a4, a5, a6, a7, a8]) hk hl rfl hst hdd hd hC kk
theorem w_cN {g : gG} {l : Launch} {Y : gY} {d : Nat} {post : gQ} {pc : Nat} {lv : List (Option gA)} {st : List gA} {μ : gM} {dc : Nat} {a1 a2 a3 : gA} {q : gQ} (hY : Y.1.cls = RX2) (hst : (st.map gcat).sum ≤ 8) (hdd : dc + 1 ≤ d) (hd : decode Y.2.1 pc = .ok (.invokestatic 87, 3)) (hC : CT g l YX4_within dc [a1, a2, a3] μ q) (kk : ∀ (r : Option gA) (μ' : gM), q r μ' → WA g l Y d post (pc + 3) lv (r.toList ++ st) μ') : WA g l Y d post pc lv (a3 :: a2 :: a1 :: st) μ := w_callSN (as := [a1, a2, a3]) kX4_within (fun s h => by rw [hY]; exact h.2.1.1) rfl hst hdd hd hC kk
theorem w_loop {g : gG} {l : Launch} {Y : gY} {d : Nat} {post : gQ} {pc : Nat} {ι : Type} (I : ι → Prop) (m : ι → Nat) (lvf : ι → List (Option gA)) (muf : ι → gM) (step : ∀ i, I i → (∀ j, I j → m j < m i → WA g l Y d post pc (lvf j) [] (muf j)) → WA g l Y d post pc (lvf i) [] (muf i)) (i : ι) (hi : I i) : WA g l Y d post pc (lvf i) [] (muf i) := by
  have key : ∀ n : Nat, ∀ i, m i < n → I i → WA g l Y d post pc (lvf i) [] (muf i) := by
    intro n
    induction n with
    | zero => intro i h; omega
    | succ n ih => intro i h hI; exact step i hI (fun j hJ hlt => ih j (by omega) hJ)
  exact key (m i + 1) i (by omega) hi
def sm (f : Int → Int) : Nat → Int
  | 0 => 0
  | n + 1 => sm f n + f n
def sI (f : Int → Int) (n : Int) : Int := sm f n.toNat
theorem sI_0 (f : Int → Int) : sI f 0 = 0 := rfl
theorem sI_s (f : Int → Int) {n : Int} (h : 0 ≤ n) : sI f (n + 1) = sI f n + f n := by
  unfold sI
  obtain ⟨k, rfl⟩ := Int.eq_ofNat_of_zero_le h
  rfl
theorem sm_cg {f f2 : Int → Int} : ∀ n : Nat, (∀ k : Int, 0 ≤ k → k < n → f k = f2 k) → sm f n = sm f2 n
  | 0, _ => rfl
  | n + 1, h => by rw [sm, sm, sm_cg n (fun k h1 h2 => h k h1 (by omega)), h n (by omega) (by omega)]
theorem sI_cg {f f2 : Int → Int} {n : Int} (h : ∀ k : Int, 0 ≤ k → k < n → f k = f2 k) : sI f n = sI f2 n := by
  unfold sI
  exact sm_cg _ (fun k h1 h2 => h k h1 (by omega))
theorem sm_bd {f : Int → Int} {a b : Int} : ∀ n : Nat, (∀ k : Int, 0 ≤ k → k < n → a ≤ f k ∧ f k ≤ b) → a * n ≤ sm f n ∧ sm f n ≤ b * n
  | 0, _ => by simp [sm]
  | n + 1, h => by
    have h1 := sm_bd n (fun k h1 h2 => h k h1 (by omega))
    have h2 := h n (by omega) (by omega)
    rw [sm]
    push_cast
    rw [Int.mul_add, Int.mul_add]
    omega
theorem sI_bd {f : Int → Int} {a b n : Int} (hn : 0 ≤ n) (h : ∀ k : Int, 0 ≤ k → k < n → a ≤ f k ∧ f k ≤ b) : a * n ≤ sI f n ∧ sI f n ≤ b * n := by
  obtain ⟨k, rfl⟩ := Int.eq_ofNat_of_zero_le hn
  exact sm_bd k (fun i h1 h2 => h i h1 h2)
end
section
theorem w_tcase {g : gG} {l : Launch} {Y : gY} {d : Nat} {post : gQ} {pc : Nat} {lv : List (Option gA)} {st : List gA} {μ : gM} {dflt lo hi : Int} {offs : Array Int} {len : Nat} {a off : Int} (v : Int) {tgt : Nat} (ha : -2147483648 ≤ a ∧ a < 2147483648) (hd : decode Y.2.1 pc = .ok (.tableswitch dflt lo hi offs, len)) (hr : -2147483648 ≤ v ∧ v < 2147483648) (h : ¬ v < lo ∧ ¬ hi < v) (ho : offs[(v - lo).toNat]? = some off) (ht : (pc : Int) + off = (tgt : Int)) (kt : a = v → WA g l Y d post tgt lv st μ) (kf : ¬ a = v → WA g l Y d post pc lv (vI a :: st) μ) : WA g l Y d post pc lv (vI a :: st) μ := by
  by_cases hv : a = v
  · exact w_tableIn v hd hv hr h ho ht (kt hv)
  · exact kf hv
theorem w_ishl {g : gG} {l : Launch} {Y : gY} {d : Nat} {post : gQ} {pc : Nat} {lv : List (Option gA)} {st : List gA} {μ : gM} {a b : Int} (hd : decode Y.2.1 pc = .ok (.ishl, 1)) (kk : WA g l Y d post (pc + 1) lv (vI (bShl a b) :: st) μ) : WA g l Y d post pc lv (vI b :: vI a :: st) μ := by
  intro p en s m args below meth c H locs ls C L hP hS
  refine lv_ishl (x := iI a) (y := iI b) C.1 C.2.1 hd ?_
  have h := kk p en s m args below meth c H locs ls C L hP hS
  have e2 : cv g (vI (bShl a b)) = .int (iI a <<< (iI b &&& 31)) := congrArg Value.int (iI_of _)
  rw [List.map_cons, e2] at h
  exact h
def lUshr (a b : Int) : Int := ((lI a).toUInt64 >>> ((iI b).toInt64.toUInt64 &&& Int64.toUInt64 63)).toInt64.toInt
def lShl (a b : Int) : Int := (lI a <<< ((iI b).toInt64 &&& 63)).toInt
theorem w_lushr {g : gG} {l : Launch} {Y : gY} {d : Nat} {post : gQ} {pc : Nat} {lv : List (Option gA)} {st : List gA} {μ : gM} {a b : Int} (hd : decode Y.2.1 pc = .ok (.lushr, 1)) (kk : WA g l Y d post (pc + 1) lv (vL (lUshr a b) :: st) μ) : WA g l Y d post pc lv (vI b :: vL a :: st) μ := by
  intro p en s m args below meth c H locs ls C L hP hS
  refine lv_lushr (x := lI a) (y := iI b) C.1 C.2.1 hd rfl ?_
  have h := kk p en s m args below meth c H locs ls C L hP hS
  have e2 : cv g (vL (lUshr a b)) = .long (((lI a).toUInt64 >>> ((iI b).toInt64.toUInt64 &&& Int64.toUInt64 63)).toInt64) := congrArg Value.long (lI_of _)
  rw [List.map_cons, e2] at h
  exact h
theorem w_lshl {g : gG} {l : Launch} {Y : gY} {d : Nat} {post : gQ} {pc : Nat} {lv : List (Option gA)} {st : List gA} {μ : gM} {a b : Int} (hd : decode Y.2.1 pc = .ok (.lshl, 1)) (kk : WA g l Y d post (pc + 1) lv (vL (lShl a b) :: st) μ) : WA g l Y d post pc lv (vI b :: vL a :: st) μ := by
  intro p en s m args below meth c H locs ls C L hP hS
  refine lv_lshl (x := lI a) (y := iI b) C.1 C.2.1 hd rfl ?_
  have h := kk p en s m args below meth c H locs ls C L hP hS
  have e2 : cv g (vL (lShl a b)) = .long (lI a <<< ((iI b).toInt64 &&& 63)) := congrArg Value.long (lI_of _)
  rw [List.map_cons, e2] at h
  exact h
/-! what is computed of a canton: 'view j k' is place k of its row j -/
abbrev gV : Type := Nat → Int → Int
def vw (μ : gM) (c : Nat) : gV := fun j k => μ (c + j) k
def fF (v : gV) (s r sl : Int) : Int := if r < v 6 s ∨ v 7 s < r then 0 else max 0 ((if sl = v 8 s then v 9 s else v 9 s / 2) - 2 * v 11 r - (if 0 < r then v 11 (r - 1) else 0) - (if r < 6 then v 11 (r + 1) else 0))
def fT (v : gV) (s r sl : Int) : Int := if fF v s r sl = 0 then 0 else if v 1 r = 1 then fF v s r sl + v 2 r else if v 1 r = 2 then fF v s r sl / 2 else if v 1 r = 3 then max 0 (fF v s r sl / 2 - 1) else if v 1 r = 4 then max 0 (fF v s r sl + v 2 r - 3) else if v 1 r = 5 then 0 else fF v s r sl
def fb (v : gV) (s r sl w : Int) : Int := min (fT v s r sl) (v 3 (4 * r + 2 * sl + w))
def fB (v : gV) (s r w : Int) : Int := fb v s r 0 w + fb v s r 1 w
def fA (v : gV) (n s w : Int) : Int := sI (fun r => fB v s r w) n
def fL (v : gV) (n s : Int) : Int := sI (fun r => fB v s r 0 - fB v s r 1) n
def fW (x : Int) : Int := if x = 0 then -1 else if 0 < x then 1 else 0
def fC (v : gV) (m : Int) : Int := sI (fun s => v 10 s) m
def fO (v : gV) (n m who : Int) : Int := sI (fun s => if fW (fL v n s) = who then v 10 s else 0) m
def fE (v : gV) (n m : Int) : Int := sI (fun s => if fL v n s < 0 then v 10 s else if 0 < fL v n s then - v 10 s else 0) m
end
section
/-! bounds of what is computed -/
theorem vw_a (μ : gM) (c j : Nat) (k : Int) : vw μ c j k = μ (c + j) k := rfl
def VI (v : gV) : Prop := (∀ k, 0 ≤ v 1 k ∧ v 1 k ≤ 5) ∧ (∀ k, 0 ≤ v 2 k ∧ v 2 k ≤ 9) ∧ (∀ k, 0 ≤ v 3 k ∧ v 3 k ≤ 20) ∧ (∀ k, 0 ≤ v 9 k ∧ v 9 k ≤ 9) ∧ (∀ k, 0 ≤ v 10 k ∧ v 10 k ≤ 9) ∧ (∀ k, 0 ≤ v 11 k ∧ v 11 k ≤ 1)
theorem CI.VI {μ : gM} {c : Nat} (h : CI μ c) : VI (vw μ c) := ⟨CI_kind h, CI_age h, CI_cover h, CI_size h, CI_chance h, CI_guns h⟩
theorem fF_bd {v : gV} (h : VI v) (s r sl : Int) : 0 ≤ fF v s r sl ∧ fF v s r sl ≤ 9 := by
  obtain ⟨h1, h2, h3, h4, h5, h6⟩ := h
  have a1 := h4 s
  have a2 := h6 r
  have a3 := h6 (r - 1)
  have a4 := h6 (r + 1)
  unfold fF
  constructor <;> ((repeat' split) <;> omega)
theorem fT_bd {v : gV} (h : VI v) (s r sl : Int) : 0 ≤ fT v s r sl ∧ fT v s r sl ≤ 18 := by
  have a1 := fF_bd h s r sl
  obtain ⟨h1, h2, h3, h4, h5, h6⟩ := h
  have a2 := h2 r
  unfold fT
  constructor <;> ((repeat' split) <;> omega)
theorem fb_bd {v : gV} (h : VI v) (s r sl w : Int) : 0 ≤ fb v s r sl w ∧ fb v s r sl w ≤ 18 := by
  have a1 := fT_bd h s r sl
  have a2 := h.2.2.1 (4 * r + 2 * sl + w)
  unfold fb
  omega
theorem fB_bd {v : gV} (h : VI v) (s r w : Int) : 0 ≤ fB v s r w ∧ fB v s r w ≤ 36 := by
  have a1 := fb_bd h s r 0 w
  have a2 := fb_bd h s r 1 w
  unfold fB
  omega
theorem fA_bd {v : gV} (h : VI v) {n : Int} (hn : 0 ≤ n ∧ n ≤ 7) (s w : Int) : 0 ≤ fA v n s w ∧ fA v n s w ≤ 252 := by
  have := sI_bd (f := fun r => fB v s r w) hn.1 (fun k _ _ => fB_bd h s k w)
  unfold fA
  omega
theorem fL_bd {v : gV} (h : VI v) {n : Int} (hn : 0 ≤ n ∧ n ≤ 7) (s : Int) : -252 ≤ fL v n s ∧ fL v n s ≤ 252 := by
  have := sI_bd (f := fun r => fB v s r 0 - fB v s r 1) (a := -36) (b := 36) hn.1 (fun k _ _ => by
    have a1 := fB_bd h s k 0
    have a2 := fB_bd h s k 1
    omega)
  unfold fL
  omega
theorem fW_bd (x : Int) : -1 ≤ fW x ∧ fW x ≤ 1 := by
  unfold fW
  constructor <;> ((repeat' split) <;> omega)
theorem fC_bd {v : gV} (h : VI v) {m : Int} (hm : 0 ≤ m ∧ m ≤ 6) : 0 ≤ fC v m ∧ fC v m ≤ 54 := by
  have := sI_bd (f := fun s => v 10 s) hm.1 (fun k _ _ => h.2.2.2.2.1 k)
  unfold fC
  omega
theorem fO_bd {v : gV} (h : VI v) {m : Int} (hm : 0 ≤ m ∧ m ≤ 6) (n who : Int) : 0 ≤ fO v n m who ∧ fO v n m who ≤ 54 := by
  have := sI_bd (f := fun s => if fW (fL v n s) = who then v 10 s else 0) (a := 0) (b := 9) hm.1 (fun k _ _ => by
    have := h.2.2.2.2.1 k
    split <;> omega)
  unfold fO
  omega
theorem fE_bd {v : gV} (h : VI v) {m : Int} (hm : 0 ≤ m ∧ m ≤ 6) (n : Int) : -54 ≤ fE v n m ∧ fE v n m ≤ 54 := by
  have := sI_bd (f := fun s => if fL v n s < 0 then v 10 s else if 0 < fL v n s then - v 10 s else 0) (a := -9) (b := 9) hm.1 (fun k _ _ => by
    have := h.2.2.2.2.1 k
    (repeat' split) <;> omega)
  unfold fE
  omega
def it (F : Int → Int → Int) (h : Int) : Nat → Int
  | 0 => h
  | n + 1 => F n (it F h n)
def itI (F : Int → Int → Int) (h n : Int) : Int := it F h n.toNat
theorem itI_0 (F : Int → Int → Int) (h : Int) : itI F h 0 = h := rfl
theorem itI_s (F : Int → Int → Int) (h : Int) {n : Int} (hn : 0 ≤ n) : itI F h (n + 1) = F n (itI F h n) := by
  unfold itI
  obtain ⟨k, rfl⟩ := Int.eq_ofNat_of_zero_le hn
  rfl
theorem it_cg {F F2 : Int → Int → Int} {h : Int} : ∀ n : Nat, (∀ k x : Int, 0 ≤ k → k < n → F k x = F2 k x) → it F h n = it F2 h n
  | 0, _ => rfl
  | n + 1, q => by rw [it, it, it_cg n (fun k x h1 h2 => q k x h1 (by omega)), q n _ (by omega) (by omega)]
theorem itI_cg {F F2 : Int → Int → Int} {h n : Int} (q : ∀ k x : Int, 0 ≤ k → k < n → F k x = F2 k x) : itI F h n = itI F2 h n := by
  unfold itI
  exact it_cg _ (fun k x h1 h2 => q k x h1 (by omega))
def mxS (v : gV) (s h : Int) : Int := 31 * (31 * (31 * (31 * (31 * h + v 6 s) + v 7 s) + v 8 s) + v 9 s) + v 10 s
def mxR (v : gV) (r h : Int) : Int := 31 * (31 * itI (fun i x => 31 * x + v 3 (4 * r + i)) (31 * (31 * h + v 1 r) + v 2 r) 4 + v 4 r) + v 5 r
theorem wr_restore {μ : gM} {a : Nat} {i j : Int} (h : i ≠ j) : wr (wr (wr (wr μ a j (μ a j - 1)) a i (wr μ a j (μ a j - 1) a i + 1)) a i (wr (wr μ a j (μ a j - 1)) a i (wr μ a j (μ a j - 1) a i + 1) a i - 1)) a j (wr (wr (wr μ a j (μ a j - 1)) a i (wr μ a j (μ a j - 1) a i + 1)) a i (wr (wr μ a j (μ a j - 1)) a i (wr μ a j (μ a j - 1) a i + 1) a i - 1) a j + 1) = μ := by
  funext b k
  unfold wr
  by_cases hb : b = a
  · subst hb
    by_cases h1 : k = j
    · subst h1
      simp [h, Ne.symm h]
    · by_cases h2 : k = i
      · subst h2
        simp [h1]
      · simp [h1, h2]
  · simp [hb]
theorem wr_same {μ : gM} {a : Nat} {i x : Int} (h : μ a i = x) : wr μ a i x = μ := by
  funext b k
  unfold wr
  split
  · next q => rw [q.1, q.2, h]
  · rfl
theorem wr_wr {μ : gM} {a : Nat} {i x y : Int} : wr (wr μ a i x) a i y = wr μ a i y := by
  funext b k
  unfold wr
  split
  · rfl
  · rfl
/-- a canton stays in bounds where a place of one of its rows is changed within bounds -/
theorem CI_cover_wr {μ : gM} {c : Nat} {i x : Int} (h : CI μ c) (hx : 0 ≤ x ∧ x ≤ 20) : CI (wr μ (c + 3) i x) c := by
  have e : ∀ j, j ≠ 3 → wr μ (c + 3) i x (c + j) = μ (c + j) := fun j hj => wr_o (by omega)
  have e0 : wr μ (c + 3) i x c = μ c := wr_o (by omega)
  obtain ⟨h1, h2, h3, h4, h5, h6, h7, h8, h9, h10, h11, h12, h13⟩ := h
  unfold CI
  rw [e0, e 1 (by decide), e 2 (by decide), e 4 (by decide), e 5 (by decide), e 6 (by decide), e 7 (by decide), e 8 (by decide), e 9 (by decide), e 10 (by decide), e 11 (by decide)]
  refine ⟨h1, h2, h3, h4, fun k => ?_, h6, h7, h8, h9, h10, h11, h12, h13⟩
  have := h5 k
  unfold wr
  split <;> omega
theorem CI_guns_wr {μ : gM} {c : Nat} {i x : Int} (h : CI μ c) (hx : 0 ≤ x ∧ x ≤ 1) : CI (wr μ (c + 11) i x) c := by
  have e : ∀ j, j ≠ 11 → wr μ (c + 11) i x (c + j) = μ (c + j) := fun j hj => wr_o (by omega)
  have e0 : wr μ (c + 11) i x c = μ c := wr_o (by omega)
  obtain ⟨h1, h2, h3, h4, h5, h6, h7, h8, h9, h10, h11, h12, h13⟩ := h
  unfold CI
  rw [e0, e 1 (by decide), e 2 (by decide), e 3 (by decide), e 4 (by decide), e 5 (by decide), e 6 (by decide), e 7 (by decide), e 8 (by decide), e 9 (by decide), e 10 (by decide)]
  refine ⟨h1, h2, h3, h4, h5, h6, h7, h8, h9, h10, h11, h12, fun k => ?_⟩
  have := h13 k
  unfold wr
  split <;> omega
end
section
set_option maxRecDepth 100000 in
set_option maxHeartbeats 4000000 in
theorem c_X0_row {g : gG} {l : Launch} {μ : gM} {r : Int} {s : Int} {p : Int}   : CT g l YX0_row 0 [vI r, vI s, vI p] μ (pI fun e μ2 => e = 4 * r + 2 * s + p ∧ μ = μ2) := by
  refine CT.of (n := 0) (by decide) rfl ?_
  show WA g l YX0_row 0 _ 0 [some (vI r), some (vI s), some (vI p)] [] μ
  refine w_iconst dX0_row_0 ?_
  refine w_iload_n dX0_row_1 rfl ?_
  refine w_imul dX0_row_2 ?_
  refine w_iconst dX0_row_3 ?_
  refine w_iload_n dX0_row_4 rfl ?_
  refine w_imul dX0_row_5 ?_
  refine w_iadd dX0_row_6 ?_
  refine w_iload_n dX0_row_7 rfl ?_
  refine w_iadd dX0_row_8 ?_
  exact w_iretP rfl dX0_row_9 (by first | exact ⟨rfl, rfl⟩ | (refine ⟨?_, rfl⟩; omega) | (exfalso; omega))
set_option maxRecDepth 100000 in
set_option maxHeartbeats 4000000 in
theorem c_X0_forceOn {g : gG} {l : Launch} {μ : gM} {c : Nat} (hc : cn c) {s : Int} {r : Int} {sl : Int}  (hI : CI μ c) (hs : 0 ≤ s ∧ s < 6) (hr : 0 ≤ r ∧ r < 7) (hsl : 0 ≤ sl ∧ sl ≤ 1) : CT g l YX0_forceOn 1 [vR c, vI s, vI r, vI sl] μ (pI fun e μ2 => e = fF (vw μ c) s r sl ∧ μ = μ2 ∧ 0 ≤ fF (vw μ c) s r sl ∧ fF (vw μ c) s r sl ≤ 9) := by
  refine CT.of (n := 3) (by decide) rfl ?_
  show WA g l YX0_forceOn 1 _ 0 [some (vR c), some (vI s), some (vI r), some (vI sl), none, none, none] [] μ
  refine w_iload_n dX0_forceOn_0 rfl ?_
  refine w_aload_n dX0_forceOn_1 rfl ?_
  refine gf_X0_27 rfl (cnO hc) dX0_forceOn_2 ?_
  refine w_iload_n dX0_forceOn_5 rfl ?_
  refine w_ialdB (CI_first hI) (cA_first hc) (by omega) dX0_forceOn_6 (fun b6 => ?_)
  refine w_icmp_lt (tgt := 20) (by omega) (by omega) dX0_forceOn_7 (by decide) (fun h7 => ?_) (fun h7 => ?_)
  · refine w_iconst dX0_forceOn_20 ?_
    exact w_iretP rfl dX0_forceOn_21 (by refine ⟨?_, rfl, ?_, ?_⟩ <;> (simp only [fF, vw]; (repeat' split) <;> omega))
  · refine w_iload_n dX0_forceOn_10 rfl ?_
    refine w_aload_n dX0_forceOn_11 rfl ?_
    refine gf_X0_30 rfl (cnO hc) dX0_forceOn_12 ?_
    refine w_iload_n dX0_forceOn_15 rfl ?_
    refine w_ialdB (CI_last hI) (cA_last hc) (by omega) dX0_forceOn_16 (fun b16 => ?_)
    refine w_icmp_le (tgt := 22) (by omega) (by omega) dX0_forceOn_17 (by decide) (fun h17 => ?_) (fun h17 => ?_)
    · refine w_iload_n dX0_forceOn_22 rfl ?_
      refine w_aload_n dX0_forceOn_23 rfl ?_
      refine gf_X0_33 rfl (cnO hc) dX0_forceOn_24 ?_
      refine w_iload_n dX0_forceOn_27 rfl ?_
      refine w_ialdB (CI_wind hI) (cA_wind hc) (by omega) dX0_forceOn_28 (fun b28 => ?_)
      refine w_icmp_ne (tgt := 41) (by omega) (by omega) dX0_forceOn_29 (by decide) (fun h29 => ?_) (fun h29 => ?_)
      · refine w_aload_n dX0_forceOn_41 rfl ?_
        refine gf_X0_36 rfl (cnO hc) dX0_forceOn_42 ?_
        refine w_iload_n dX0_forceOn_45 rfl ?_
        refine w_ialdB (CI_size hI) (cA_size hc) (by omega) dX0_forceOn_46 (fun b46 => ?_)
        refine w_iconst dX0_forceOn_47 ?_
        refine w_idiv (by omega) (by omega) dX0_forceOn_48 ?_
        refine w_istore dX0_forceOn_49 (by decide) rfl ?_
        refine w_iload_n dX0_forceOn_51 rfl ?_
        refine w_if_le (tgt := 66) (by omega) dX0_forceOn_52 (by decide) (fun h52 => ?_) (fun h52 => ?_)
        · refine w_iconst dX0_forceOn_66 ?_
          refine w_istore dX0_forceOn_67 (by decide) rfl ?_
          refine w_iload_n dX0_forceOn_69 rfl ?_
          refine w_bipush dX0_forceOn_70 (by decide) ?_
          refine w_icmp_ge (tgt := 86) (by omega) (by omega) dX0_forceOn_72 (by decide) (fun h72 => ?_) (fun h72 => ?_)
          · refine w_iconst dX0_forceOn_86 ?_
            refine w_istore dX0_forceOn_87 (by decide) rfl ?_
            refine w_iconst dX0_forceOn_89 ?_
            refine w_iload dX0_forceOn_90 rfl ?_
            refine w_iconst dX0_forceOn_92 ?_
            refine w_aload_n dX0_forceOn_93 rfl ?_
            refine gf_X0_42 rfl (cnO hc) dX0_forceOn_94 ?_
            refine w_iload_n dX0_forceOn_97 rfl ?_
            refine w_ialdB (CI_guns hI) (cA_guns hc) (by omega) dX0_forceOn_98 (fun b98 => ?_)
            refine w_imul dX0_forceOn_99 ?_
            refine w_isub dX0_forceOn_100 ?_
            refine w_iload dX0_forceOn_101 rfl ?_
            refine w_isub dX0_forceOn_103 ?_
            refine w_iload dX0_forceOn_104 rfl ?_
            refine w_isub dX0_forceOn_106 ?_
            refine w_max (by omega) (by omega) (by decide) (Nat.le_of_ble_eq_true rfl) ml_X0_65 mt_max_s mt_i mt_max_c dX0_forceOn_107 ?_
            exact w_iretP rfl dX0_forceOn_110 (by refine ⟨?_, rfl, ?_, ?_⟩ <;> (simp only [fF, vw]; (repeat' split) <;> omega))
          · refine w_aload_n dX0_forceOn_75 rfl ?_
            refine gf_X0_42 rfl (cnO hc) dX0_forceOn_76 ?_
            refine w_iload_n dX0_forceOn_79 rfl ?_
            refine w_iconst dX0_forceOn_80 ?_
            refine w_iadd dX0_forceOn_81 ?_
            refine w_ialdB (CI_guns hI) (cA_guns hc) (by omega) dX0_forceOn_82 (fun b82 => ?_)
            refine w_goto (tgt := 87) dX0_forceOn_83 (by decide) ?_
            refine w_istore dX0_forceOn_87 (by decide) rfl ?_
            refine w_iconst dX0_forceOn_89 ?_
            refine w_iload dX0_forceOn_90 rfl ?_
            refine w_iconst dX0_forceOn_92 ?_
            refine w_aload_n dX0_forceOn_93 rfl ?_
            refine gf_X0_42 rfl (cnO hc) dX0_forceOn_94 ?_
            refine w_iload_n dX0_forceOn_97 rfl ?_
            refine w_ialdB (CI_guns hI) (cA_guns hc) (by omega) dX0_forceOn_98 (fun b98 => ?_)
            refine w_imul dX0_forceOn_99 ?_
            refine w_isub dX0_forceOn_100 ?_
            refine w_iload dX0_forceOn_101 rfl ?_
            refine w_isub dX0_forceOn_103 ?_
            refine w_iload dX0_forceOn_104 rfl ?_
            refine w_isub dX0_forceOn_106 ?_
            refine w_max (by omega) (by omega) (by decide) (Nat.le_of_ble_eq_true rfl) ml_X0_65 mt_max_s mt_i mt_max_c dX0_forceOn_107 ?_
            exact w_iretP rfl dX0_forceOn_110 (by refine ⟨?_, rfl, ?_, ?_⟩ <;> (simp only [fF, vw]; (repeat' split) <;> omega))
        · refine w_aload_n dX0_forceOn_55 rfl ?_
          refine gf_X0_42 rfl (cnO hc) dX0_forceOn_56 ?_
          refine w_iload_n dX0_forceOn_59 rfl ?_
          refine w_iconst dX0_forceOn_60 ?_
          refine w_isub dX0_forceOn_61 ?_
          refine w_ialdB (CI_guns hI) (cA_guns hc) (by omega) dX0_forceOn_62 (fun b62 => ?_)
          refine w_goto (tgt := 67) dX0_forceOn_63 (by decide) ?_
          refine w_istore dX0_forceOn_67 (by decide) rfl ?_
          refine w_iload_n dX0_forceOn_69 rfl ?_
          refine w_bipush dX0_forceOn_70 (by decide) ?_
          refine w_icmp_ge (tgt := 86) (by omega) (by omega) dX0_forceOn_72 (by decide) (fun h72 => ?_) (fun h72 => ?_)
          · refine w_iconst dX0_forceOn_86 ?_
            refine w_istore dX0_forceOn_87 (by decide) rfl ?_
            refine w_iconst dX0_forceOn_89 ?_
            refine w_iload dX0_forceOn_90 rfl ?_
            refine w_iconst dX0_forceOn_92 ?_
            refine w_aload_n dX0_forceOn_93 rfl ?_
            refine gf_X0_42 rfl (cnO hc) dX0_forceOn_94 ?_
            refine w_iload_n dX0_forceOn_97 rfl ?_
            refine w_ialdB (CI_guns hI) (cA_guns hc) (by omega) dX0_forceOn_98 (fun b98 => ?_)
            refine w_imul dX0_forceOn_99 ?_
            refine w_isub dX0_forceOn_100 ?_
            refine w_iload dX0_forceOn_101 rfl ?_
            refine w_isub dX0_forceOn_103 ?_
            refine w_iload dX0_forceOn_104 rfl ?_
            refine w_isub dX0_forceOn_106 ?_
            refine w_max (by omega) (by omega) (by decide) (Nat.le_of_ble_eq_true rfl) ml_X0_65 mt_max_s mt_i mt_max_c dX0_forceOn_107 ?_
            exact w_iretP rfl dX0_forceOn_110 (by refine ⟨?_, rfl, ?_, ?_⟩ <;> (simp only [fF, vw]; (repeat' split) <;> omega))
          · refine w_aload_n dX0_forceOn_75 rfl ?_
            refine gf_X0_42 rfl (cnO hc) dX0_forceOn_76 ?_
            refine w_iload_n dX0_forceOn_79 rfl ?_
            refine w_iconst dX0_forceOn_80 ?_
            refine w_iadd dX0_forceOn_81 ?_
            refine w_ialdB (CI_guns hI) (cA_guns hc) (by omega) dX0_forceOn_82 (fun b82 => ?_)
            refine w_goto (tgt := 87) dX0_forceOn_83 (by decide) ?_
            refine w_istore dX0_forceOn_87 (by decide) rfl ?_
            refine w_iconst dX0_forceOn_89 ?_
            refine w_iload dX0_forceOn_90 rfl ?_
            refine w_iconst dX0_forceOn_92 ?_
            refine w_aload_n dX0_forceOn_93 rfl ?_
            refine gf_X0_42 rfl (cnO hc) dX0_forceOn_94 ?_
            refine w_iload_n dX0_forceOn_97 rfl ?_
            refine w_ialdB (CI_guns hI) (cA_guns hc) (by omega) dX0_forceOn_98 (fun b98 => ?_)
            refine w_imul dX0_forceOn_99 ?_
            refine w_isub dX0_forceOn_100 ?_
            refine w_iload dX0_forceOn_101 rfl ?_
            refine w_isub dX0_forceOn_103 ?_
            refine w_iload dX0_forceOn_104 rfl ?_
            refine w_isub dX0_forceOn_106 ?_
            refine w_max (by omega) (by omega) (by decide) (Nat.le_of_ble_eq_true rfl) ml_X0_65 mt_max_s mt_i mt_max_c dX0_forceOn_107 ?_
            exact w_iretP rfl dX0_forceOn_110 (by refine ⟨?_, rfl, ?_, ?_⟩ <;> (simp only [fF, vw]; (repeat' split) <;> omega))
      · refine w_aload_n dX0_forceOn_32 rfl ?_
        refine gf_X0_36 rfl (cnO hc) dX0_forceOn_33 ?_
        refine w_iload_n dX0_forceOn_36 rfl ?_
        refine w_ialdB (CI_size hI) (cA_size hc) (by omega) dX0_forceOn_37 (fun b37 => ?_)
        refine w_goto (tgt := 49) dX0_forceOn_38 (by decide) ?_
        refine w_istore dX0_forceOn_49 (by decide) rfl ?_
        refine w_iload_n dX0_forceOn_51 rfl ?_
        refine w_if_le (tgt := 66) (by omega) dX0_forceOn_52 (by decide) (fun h52 => ?_) (fun h52 => ?_)
        · refine w_iconst dX0_forceOn_66 ?_
          refine w_istore dX0_forceOn_67 (by decide) rfl ?_
          refine w_iload_n dX0_forceOn_69 rfl ?_
          refine w_bipush dX0_forceOn_70 (by decide) ?_
          refine w_icmp_ge (tgt := 86) (by omega) (by omega) dX0_forceOn_72 (by decide) (fun h72 => ?_) (fun h72 => ?_)
          · refine w_iconst dX0_forceOn_86 ?_
            refine w_istore dX0_forceOn_87 (by decide) rfl ?_
            refine w_iconst dX0_forceOn_89 ?_
            refine w_iload dX0_forceOn_90 rfl ?_
            refine w_iconst dX0_forceOn_92 ?_
            refine w_aload_n dX0_forceOn_93 rfl ?_
            refine gf_X0_42 rfl (cnO hc) dX0_forceOn_94 ?_
            refine w_iload_n dX0_forceOn_97 rfl ?_
            refine w_ialdB (CI_guns hI) (cA_guns hc) (by omega) dX0_forceOn_98 (fun b98 => ?_)
            refine w_imul dX0_forceOn_99 ?_
            refine w_isub dX0_forceOn_100 ?_
            refine w_iload dX0_forceOn_101 rfl ?_
            refine w_isub dX0_forceOn_103 ?_
            refine w_iload dX0_forceOn_104 rfl ?_
            refine w_isub dX0_forceOn_106 ?_
            refine w_max (by omega) (by omega) (by decide) (Nat.le_of_ble_eq_true rfl) ml_X0_65 mt_max_s mt_i mt_max_c dX0_forceOn_107 ?_
            exact w_iretP rfl dX0_forceOn_110 (by refine ⟨?_, rfl, ?_, ?_⟩ <;> (simp only [fF, vw]; (repeat' split) <;> omega))
          · refine w_aload_n dX0_forceOn_75 rfl ?_
            refine gf_X0_42 rfl (cnO hc) dX0_forceOn_76 ?_
            refine w_iload_n dX0_forceOn_79 rfl ?_
            refine w_iconst dX0_forceOn_80 ?_
            refine w_iadd dX0_forceOn_81 ?_
            refine w_ialdB (CI_guns hI) (cA_guns hc) (by omega) dX0_forceOn_82 (fun b82 => ?_)
            refine w_goto (tgt := 87) dX0_forceOn_83 (by decide) ?_
            refine w_istore dX0_forceOn_87 (by decide) rfl ?_
            refine w_iconst dX0_forceOn_89 ?_
            refine w_iload dX0_forceOn_90 rfl ?_
            refine w_iconst dX0_forceOn_92 ?_
            refine w_aload_n dX0_forceOn_93 rfl ?_
            refine gf_X0_42 rfl (cnO hc) dX0_forceOn_94 ?_
            refine w_iload_n dX0_forceOn_97 rfl ?_
            refine w_ialdB (CI_guns hI) (cA_guns hc) (by omega) dX0_forceOn_98 (fun b98 => ?_)
            refine w_imul dX0_forceOn_99 ?_
            refine w_isub dX0_forceOn_100 ?_
            refine w_iload dX0_forceOn_101 rfl ?_
            refine w_isub dX0_forceOn_103 ?_
            refine w_iload dX0_forceOn_104 rfl ?_
            refine w_isub dX0_forceOn_106 ?_
            refine w_max (by omega) (by omega) (by decide) (Nat.le_of_ble_eq_true rfl) ml_X0_65 mt_max_s mt_i mt_max_c dX0_forceOn_107 ?_
            exact w_iretP rfl dX0_forceOn_110 (by refine ⟨?_, rfl, ?_, ?_⟩ <;> (simp only [fF, vw]; (repeat' split) <;> omega))
        · refine w_aload_n dX0_forceOn_55 rfl ?_
          refine gf_X0_42 rfl (cnO hc) dX0_forceOn_56 ?_
          refine w_iload_n dX0_forceOn_59 rfl ?_
          refine w_iconst dX0_forceOn_60 ?_
          refine w_isub dX0_forceOn_61 ?_
          refine w_ialdB (CI_guns hI) (cA_guns hc) (by omega) dX0_forceOn_62 (fun b62 => ?_)
          refine w_goto (tgt := 67) dX0_forceOn_63 (by decide) ?_
          refine w_istore dX0_forceOn_67 (by decide) rfl ?_
          refine w_iload_n dX0_forceOn_69 rfl ?_
          refine w_bipush dX0_forceOn_70 (by decide) ?_
          refine w_icmp_ge (tgt := 86) (by omega) (by omega) dX0_forceOn_72 (by decide) (fun h72 => ?_) (fun h72 => ?_)
          · refine w_iconst dX0_forceOn_86 ?_
            refine w_istore dX0_forceOn_87 (by decide) rfl ?_
            refine w_iconst dX0_forceOn_89 ?_
            refine w_iload dX0_forceOn_90 rfl ?_
            refine w_iconst dX0_forceOn_92 ?_
            refine w_aload_n dX0_forceOn_93 rfl ?_
            refine gf_X0_42 rfl (cnO hc) dX0_forceOn_94 ?_
            refine w_iload_n dX0_forceOn_97 rfl ?_
            refine w_ialdB (CI_guns hI) (cA_guns hc) (by omega) dX0_forceOn_98 (fun b98 => ?_)
            refine w_imul dX0_forceOn_99 ?_
            refine w_isub dX0_forceOn_100 ?_
            refine w_iload dX0_forceOn_101 rfl ?_
            refine w_isub dX0_forceOn_103 ?_
            refine w_iload dX0_forceOn_104 rfl ?_
            refine w_isub dX0_forceOn_106 ?_
            refine w_max (by omega) (by omega) (by decide) (Nat.le_of_ble_eq_true rfl) ml_X0_65 mt_max_s mt_i mt_max_c dX0_forceOn_107 ?_
            exact w_iretP rfl dX0_forceOn_110 (by refine ⟨?_, rfl, ?_, ?_⟩ <;> (simp only [fF, vw]; (repeat' split) <;> omega))
          · refine w_aload_n dX0_forceOn_75 rfl ?_
            refine gf_X0_42 rfl (cnO hc) dX0_forceOn_76 ?_
            refine w_iload_n dX0_forceOn_79 rfl ?_
            refine w_iconst dX0_forceOn_80 ?_
            refine w_iadd dX0_forceOn_81 ?_
            refine w_ialdB (CI_guns hI) (cA_guns hc) (by omega) dX0_forceOn_82 (fun b82 => ?_)
            refine w_goto (tgt := 87) dX0_forceOn_83 (by decide) ?_
            refine w_istore dX0_forceOn_87 (by decide) rfl ?_
            refine w_iconst dX0_forceOn_89 ?_
            refine w_iload dX0_forceOn_90 rfl ?_
            refine w_iconst dX0_forceOn_92 ?_
            refine w_aload_n dX0_forceOn_93 rfl ?_
            refine gf_X0_42 rfl (cnO hc) dX0_forceOn_94 ?_
            refine w_iload_n dX0_forceOn_97 rfl ?_
            refine w_ialdB (CI_guns hI) (cA_guns hc) (by omega) dX0_forceOn_98 (fun b98 => ?_)
            refine w_imul dX0_forceOn_99 ?_
            refine w_isub dX0_forceOn_100 ?_
            refine w_iload dX0_forceOn_101 rfl ?_
            refine w_isub dX0_forceOn_103 ?_
            refine w_iload dX0_forceOn_104 rfl ?_
            refine w_isub dX0_forceOn_106 ?_
            refine w_max (by omega) (by omega) (by decide) (Nat.le_of_ble_eq_true rfl) ml_X0_65 mt_max_s mt_i mt_max_c dX0_forceOn_107 ?_
            exact w_iretP rfl dX0_forceOn_110 (by refine ⟨?_, rfl, ?_, ?_⟩ <;> (simp only [fF, vw]; (repeat' split) <;> omega))
    · refine w_iconst dX0_forceOn_20 ?_
      exact w_iretP rfl dX0_forceOn_21 (by refine ⟨?_, rfl, ?_, ?_⟩ <;> (simp only [fF, vw]; (repeat' split) <;> omega))
set_option maxRecDepth 100000 in
set_option maxHeartbeats 4000000 in
theorem c_X0_toll {g : gG} {l : Launch} {μ : gM} {c : Nat} (hc : cn c) {s : Int} {r : Int} {sl : Int}  (hI : CI μ c) (hs : 0 ≤ s ∧ s < 6) (hr : 0 ≤ r ∧ r < 7) (hsl : 0 ≤ sl ∧ sl ≤ 1) : CT g l YX0_toll 2 [vR c, vI s, vI r, vI sl] μ (pI fun e μ2 => e = fT (vw μ c) s r sl ∧ μ = μ2 ∧ 0 ≤ fT (vw μ c) s r sl ∧ fT (vw μ c) s r sl ≤ 18) := by
  refine CT.of (n := 1) (by decide) rfl ?_
  show WA g l YX0_toll 2 _ 0 [some (vR c), some (vI s), some (vI r), some (vI sl), none] [] μ
  refine w_aload_n dX0_toll_0 rfl ?_
  refine w_iload_n dX0_toll_1 rfl ?_
  refine w_iload_n dX0_toll_2 rfl ?_
  refine w_iload_n dX0_toll_3 rfl ?_
  refine w_cV3 kX0_forceOn ml_X0_71 (cnO hc) rfl (Nat.le_of_ble_eq_true rfl) (by decide) dX0_toll_4 (c_X0_forceOn hc hI (by omega) (by omega) (by omega)) (kI (fun e4 m4 q4 => ?_))
  obtain ⟨rfl, rfl, b4⟩ := q4
  refine w_istore dX0_toll_7 (by decide) rfl ?_
  refine w_iload dX0_toll_9 rfl ?_
  refine w_if_ne (tgt := 16) (by omega) dX0_toll_11 (by decide) (fun h11 => ?_) (fun h11 => ?_)
  · refine w_aload_n dX0_toll_16 rfl ?_
    refine gf_X0_9 rfl (cnO hc) dX0_toll_17 ?_
    refine w_iload_n dX0_toll_20 rfl ?_
    refine w_ialdB (CI_kind hI) (cA_kind hc) (by omega) dX0_toll_21 (fun b21 => ?_)
    refine w_tcase (1) (tgt := 56) (by omega) dX0_toll_22 (by decide) (by decide) rfl (by decide) (fun k22 => ?_) (fun n22_1 => ?_)
    · refine w_iload dX0_toll_56 rfl ?_
      refine w_aload_n dX0_toll_58 rfl ?_
      refine gf_X0_15 rfl (cnO hc) dX0_toll_59 ?_
      refine w_iload_n dX0_toll_62 rfl ?_
      refine w_ialdB (CI_age hI) (cA_age hc) (by omega) dX0_toll_63 (fun b63 => ?_)
      refine w_iadd dX0_toll_64 ?_
      exact w_iretP rfl dX0_toll_65 (by refine ⟨?_, rfl, ?_, ?_⟩ <;> (simp only [fT]; simp only [vw] at *; (repeat' split) <;> omega))
    refine w_tcase (2) (tgt := 66) (by omega) dX0_toll_22 (by decide) (by decide) rfl (by decide) (fun k22 => ?_) (fun n22_2 => ?_)
    · refine w_iload dX0_toll_66 rfl ?_
      refine w_iconst dX0_toll_68 ?_
      refine w_idiv (by omega) (by omega) dX0_toll_69 ?_
      exact w_iretP rfl dX0_toll_70 (by refine ⟨?_, rfl, ?_, ?_⟩ <;> (simp only [fT]; simp only [vw] at *; (repeat' split) <;> omega))
    refine w_tcase (3) (tgt := 71) (by omega) dX0_toll_22 (by decide) (by decide) rfl (by decide) (fun k22 => ?_) (fun n22_3 => ?_)
    · refine w_iconst dX0_toll_71 ?_
      refine w_iload dX0_toll_72 rfl ?_
      refine w_iconst dX0_toll_74 ?_
      refine w_idiv (by omega) (by omega) dX0_toll_75 ?_
      refine w_iconst dX0_toll_76 ?_
      refine w_isub dX0_toll_77 ?_
      refine w_max (by omega) (by omega) (by decide) (Nat.le_of_ble_eq_true rfl) ml_X0_65 mt_max_s mt_i mt_max_c dX0_toll_78 ?_
      exact w_iretP rfl dX0_toll_81 (by refine ⟨?_, rfl, ?_, ?_⟩ <;> (simp only [fT]; simp only [vw] at *; (repeat' split) <;> omega))
    refine w_tcase (4) (tgt := 82) (by omega) dX0_toll_22 (by decide) (by decide) rfl (by decide) (fun k22 => ?_) (fun n22_4 => ?_)
    · refine w_iconst dX0_toll_82 ?_
      refine w_iload dX0_toll_83 rfl ?_
      refine w_aload_n dX0_toll_85 rfl ?_
      refine gf_X0_15 rfl (cnO hc) dX0_toll_86 ?_
      refine w_iload_n dX0_toll_89 rfl ?_
      refine w_ialdB (CI_age hI) (cA_age hc) (by omega) dX0_toll_90 (fun b90 => ?_)
      refine w_iadd dX0_toll_91 ?_
      refine w_iconst dX0_toll_92 ?_
      refine w_isub dX0_toll_93 ?_
      refine w_max (by omega) (by omega) (by decide) (Nat.le_of_ble_eq_true rfl) ml_X0_65 mt_max_s mt_i mt_max_c dX0_toll_94 ?_
      exact w_iretP rfl dX0_toll_97 (by refine ⟨?_, rfl, ?_, ?_⟩ <;> (simp only [fT]; simp only [vw] at *; (repeat' split) <;> omega))
    refine w_tcase (5) (tgt := 98) (by omega) dX0_toll_22 (by decide) (by decide) rfl (by decide) (fun k22 => ?_) (fun n22_5 => ?_)
    · refine w_iconst dX0_toll_98 ?_
      exact w_iretP rfl dX0_toll_99 (by refine ⟨?_, rfl, ?_, ?_⟩ <;> (simp only [fT]; simp only [vw] at *; (repeat' split) <;> omega))
    refine w_tableOut (tgt := 100) (by omega) dX0_toll_22 (by omega) (by decide) ?_
    refine w_iload dX0_toll_100 rfl ?_
    exact w_iretP rfl dX0_toll_102 (by refine ⟨?_, rfl, ?_, ?_⟩ <;> (simp only [fT]; simp only [vw] at *; (repeat' split) <;> omega))
  · refine w_iconst dX0_toll_14 ?_
    exact w_iretP rfl dX0_toll_15 (by refine ⟨?_, rfl, ?_, ?_⟩ <;> (simp only [fT]; simp only [vw] at *; (repeat' split) <;> omega))
end
section
set_option maxRecDepth 100000 in
set_option maxHeartbeats 4000000 in
theorem c_X0_brokenOf {g : gG} {l : Launch} {μ : gM} {c : Nat} (hc : cn c) {s : Int} {r : Int} {w : Int}  (hI : CI μ c) (hs : 0 ≤ s ∧ s < 6) (hr : 0 ≤ r ∧ r < 7) (hw : 0 ≤ w ∧ w ≤ 1) : CT g l YX0_brokenOf 3 [vR c, vI s, vI r, vI w] μ (pI fun e μ2 => e = fB (vw μ c) s r w ∧ μ = μ2 ∧ 0 ≤ fB (vw μ c) s r w ∧ fB (vw μ c) s r w ≤ 36) := by
  refine CT.of (n := 0) (by decide) rfl ?_
  show WA g l YX0_brokenOf 3 _ 0 [some (vR c), some (vI s), some (vI r), some (vI w)] [] μ
  refine w_aload_n dX0_brokenOf_0 rfl ?_
  refine w_iload_n dX0_brokenOf_1 rfl ?_
  refine w_iload_n dX0_brokenOf_2 rfl ?_
  refine w_iconst dX0_brokenOf_3 ?_
  refine w_cV3 kX0_toll ml_X0_74 (cnO hc) rfl (Nat.le_of_ble_eq_true rfl) (by decide) dX0_brokenOf_4 (c_X0_toll hc hI (by omega) (by omega) (by omega)) (kI (fun e4 m4 q4 => ?_))
  obtain ⟨rfl, rfl, b4⟩ := q4
  refine w_aload_n dX0_brokenOf_7 rfl ?_
  refine gf_X0_18 rfl (cnO hc) dX0_brokenOf_8 ?_
  refine w_iload_n dX0_brokenOf_11 rfl ?_
  refine w_iconst dX0_brokenOf_12 ?_
  refine w_iload_n dX0_brokenOf_13 rfl ?_
  refine w_cS3 kX0_row ml_X0_61 (Nat.le_of_ble_eq_true rfl) (by decide) dX0_brokenOf_14 (c_X0_row) (kI (fun e14 m14 q14 => ?_))
  obtain ⟨rfl, rfl⟩ := q14
  refine w_ialdB (CI_cover hI) (cA_cover hc) (by omega) dX0_brokenOf_17 (fun b17 => ?_)
  refine w_min (by omega) (by omega) (by decide) (Nat.le_of_ble_eq_true rfl) ml_X0_77 mt_min_s mt_i mt_min_c dX0_brokenOf_18 ?_
  refine w_aload_n dX0_brokenOf_21 rfl ?_
  refine w_iload_n dX0_brokenOf_22 rfl ?_
  refine w_iload_n dX0_brokenOf_23 rfl ?_
  refine w_iconst dX0_brokenOf_24 ?_
  refine w_cV3 kX0_toll ml_X0_74 (cnO hc) rfl (Nat.le_of_ble_eq_true rfl) (by decide) dX0_brokenOf_25 (c_X0_toll hc hI (by omega) (by omega) (by omega)) (kI (fun e25 m25 q25 => ?_))
  obtain ⟨rfl, rfl, b25⟩ := q25
  refine w_aload_n dX0_brokenOf_28 rfl ?_
  refine gf_X0_18 rfl (cnO hc) dX0_brokenOf_29 ?_
  refine w_iload_n dX0_brokenOf_32 rfl ?_
  refine w_iconst dX0_brokenOf_33 ?_
  refine w_iload_n dX0_brokenOf_34 rfl ?_
  refine w_cS3 kX0_row ml_X0_61 (Nat.le_of_ble_eq_true rfl) (by decide) dX0_brokenOf_35 (c_X0_row) (kI (fun e35 m35 q35 => ?_))
  obtain ⟨rfl, rfl⟩ := q35
  refine w_ialdB (CI_cover hI) (cA_cover hc) (by omega) dX0_brokenOf_38 (fun b38 => ?_)
  refine w_min (by omega) (by omega) (by decide) (Nat.le_of_ble_eq_true rfl) ml_X0_77 mt_min_s mt_i mt_min_c dX0_brokenOf_39 ?_
  refine w_iadd dX0_brokenOf_42 ?_
  exact w_iretP rfl dX0_brokenOf_43 (by exact ⟨rfl, rfl, fB_bd (CI.VI hI) s r w⟩)
set_option maxRecDepth 100000 in
set_option maxHeartbeats 4000000 in
theorem c_X0_brokenInAll {g : gG} {l : Launch} {μ : gM} {c : Nat} (hc : cn c) {s : Int} {w : Int}  (hI : CI μ c) (hs : 0 ≤ s ∧ s < 6) (hw : 0 ≤ w ∧ w ≤ 1) : CT g l YX0_brokenInAll 4 [vR c, vI s, vI w] μ (pI fun e μ2 => e = fA (vw μ c) (μ c 0) s w ∧ μ = μ2 ∧ 0 ≤ fA (vw μ c) (μ c 0) s w ∧ fA (vw μ c) (μ c 0) s w ≤ 252) := by
  have hN := CI_roofs hI
  have hM := CI_storms hI
  have hV := CI.VI hI
  refine CT.of (n := 2) (by decide) rfl ?_
  show WA g l YX0_brokenInAll 4 _ 0 [some (vR c), some (vI s), some (vI w), none, none] [] μ
  refine w_iconst dX0_brokenInAll_0 ?_
  refine w_istore_n dX0_brokenInAll_1 (by decide) rfl ?_
  refine w_iconst dX0_brokenInAll_2 ?_
  refine w_istore dX0_brokenInAll_3 (by decide) rfl ?_
  refine w_loop (ι := Int × Int) (fun i => match i with | (a, k) => 0 ≤ k ∧ k ≤ μ c 0 ∧ a = sI (fun r => fB (vw μ c) s r w) k) (fun i => match i with | (a, k) => (μ c 0 - k).toNat) (fun i => match i with | (a, k) => [some (vR c), some (vI s), some (vI w), some (vI a), some (vI k)]) (fun i => match i with | (a, k) => μ) ?_ (0, 0) ⟨by omega, by omega, rfl⟩
  intro i_ hinv5 ih5
  obtain ⟨a, k⟩ := i_
  dsimp only at hinv5 ih5 ⊢
  obtain ⟨h1, h2, h3⟩ := hinv5
  refine w_iload dX0_brokenInAll_5 rfl ?_
  refine w_aload_n dX0_brokenInAll_7 rfl ?_
  refine gf_X0_45 rfl (cnO hc) dX0_brokenInAll_8 ?_
  refine w_icmp_ge (tgt := 31) (by omega) (by omega) dX0_brokenInAll_11 (by decide) (fun h11 => ?_) (fun h11 => ?_)
  · refine w_iload_n dX0_brokenInAll_31 rfl ?_
    exact w_iretP rfl dX0_brokenInAll_32 (by have e0 : k = μ c 0 := (by omega); subst e0; exact ⟨h3, rfl, fA_bd hV hN s w⟩)
  · refine w_iload_n dX0_brokenInAll_14 rfl ?_
    refine w_aload_n dX0_brokenInAll_15 rfl ?_
    refine w_iload_n dX0_brokenInAll_16 rfl ?_
    refine w_iload dX0_brokenInAll_17 rfl ?_
    refine w_iload_n dX0_brokenInAll_19 rfl ?_
    refine w_cV3 kX0_brokenOf ml_X0_80 (cnO hc) rfl (Nat.le_of_ble_eq_true rfl) (by decide) dX0_brokenInAll_20 (c_X0_brokenOf hc hI (by omega) (by omega) (by omega)) (kI (fun e20 m20 q20 => ?_))
    obtain ⟨rfl, rfl, b20⟩ := q20
    refine w_iadd dX0_brokenInAll_23 ?_
    refine w_istore_n dX0_brokenInAll_24 (by decide) rfl ?_
    refine w_iinc dX0_brokenInAll_25 rfl (by decide) rfl ?_
    refine w_goto (tgt := 5) dX0_brokenInAll_28 (by decide) ?_
    exact ih5 (_, _) ⟨by omega, by omega, by rw [sI_s _ h1, h3]⟩ (by omega)
set_option maxRecDepth 100000 in
set_option maxHeartbeats 4000000 in
theorem c_X0_lead {g : gG} {l : Launch} {μ : gM} {c : Nat} (hc : cn c) {s : Int}  (hI : CI μ c) (hs : 0 ≤ s ∧ s < 6) : CT g l YX0_lead 4 [vR c, vI s] μ (pI fun e μ2 => e = fL (vw μ c) (μ c 0) s ∧ μ = μ2 ∧ -252 ≤ fL (vw μ c) (μ c 0) s ∧ fL (vw μ c) (μ c 0) s ≤ 252) := by
  have hN := CI_roofs hI
  have hM := CI_storms hI
  have hV := CI.VI hI
  refine CT.of (n := 2) (by decide) rfl ?_
  show WA g l YX0_lead 4 _ 0 [some (vR c), some (vI s), none, none] [] μ
  refine w_iconst dX0_lead_0 ?_
  refine w_istore_n dX0_lead_1 (by decide) rfl ?_
  refine w_iconst dX0_lead_2 ?_
  refine w_istore_n dX0_lead_3 (by decide) rfl ?_
  refine w_loop (ι := Int × Int) (fun i => match i with | (a, k) => 0 ≤ k ∧ k ≤ μ c 0 ∧ a = sI (fun r => fB (vw μ c) s r 0 - fB (vw μ c) s r 1) k) (fun i => match i with | (a, k) => (μ c 0 - k).toNat) (fun i => match i with | (a, k) => [some (vR c), some (vI s), some (vI a), some (vI k)]) (fun i => match i with | (a, k) => μ) ?_ (0, 0) ⟨by omega, by omega, rfl⟩
  intro i_ hinv4 ih4
  obtain ⟨a, k⟩ := i_
  dsimp only at hinv4 ih4 ⊢
  obtain ⟨h1, h2, h3⟩ := hinv4
  refine w_iload_n dX0_lead_4 rfl ?_
  refine w_aload_n dX0_lead_5 rfl ?_
  refine gf_X0_45 rfl (cnO hc) dX0_lead_6 ?_
  refine w_icmp_ge (tgt := 36) (by omega) (by omega) dX0_lead_9 (by decide) (fun h9 => ?_) (fun h9 => ?_)
  · refine w_iload_n dX0_lead_36 rfl ?_
    exact w_iretP rfl dX0_lead_37 (by have e0 : k = μ c 0 := (by omega); subst e0; exact ⟨h3, rfl, fL_bd hV hN s⟩)
  · refine w_iload_n dX0_lead_12 rfl ?_
    refine w_aload_n dX0_lead_13 rfl ?_
    refine w_iload_n dX0_lead_14 rfl ?_
    refine w_iload_n dX0_lead_15 rfl ?_
    refine w_iconst dX0_lead_16 ?_
    refine w_cV3 kX0_brokenOf ml_X0_80 (cnO hc) rfl (Nat.le_of_ble_eq_true rfl) (by decide) dX0_lead_17 (c_X0_brokenOf hc hI (by omega) (by omega) (by omega)) (kI (fun e17 m17 q17 => ?_))
    obtain ⟨rfl, rfl, b17⟩ := q17
    refine w_aload_n dX0_lead_20 rfl ?_
    refine w_iload_n dX0_lead_21 rfl ?_
    refine w_iload_n dX0_lead_22 rfl ?_
    refine w_iconst dX0_lead_23 ?_
    refine w_cV3 kX0_brokenOf ml_X0_80 (cnO hc) rfl (Nat.le_of_ble_eq_true rfl) (by decide) dX0_lead_24 (c_X0_brokenOf hc hI (by omega) (by omega) (by omega)) (kI (fun e24 m24 q24 => ?_))
    obtain ⟨rfl, rfl, b24⟩ := q24
    refine w_isub dX0_lead_27 ?_
    refine w_iadd dX0_lead_28 ?_
    refine w_istore_n dX0_lead_29 (by decide) rfl ?_
    refine w_iinc dX0_lead_30 rfl (by decide) rfl ?_
    refine w_goto (tgt := 4) dX0_lead_33 (by decide) ?_
    exact ih4 (_, _) ⟨by omega, by omega, by rw [sI_s _ h1, h3]⟩ (by omega)
set_option maxRecDepth 100000 in
set_option maxHeartbeats 4000000 in
theorem c_X0_winnerBy {g : gG} {l : Launch} {μ : gM} {x : Int}  (hx : -2147483648 ≤ x ∧ x < 2147483648) : CT g l YX0_winnerBy 0 [vI x] μ (pI fun e μ2 => e = fW x ∧ μ = μ2 ∧ -1 ≤ fW x ∧ fW x ≤ 1) := by
  refine CT.of (n := 0) (by decide) rfl ?_
  show WA g l YX0_winnerBy 0 _ 0 [some (vI x)] [] μ
  refine w_iload_n dX0_winnerBy_0 rfl ?_
  refine w_if_ne (tgt := 6) (by omega) dX0_winnerBy_1 (by decide) (fun h1 => ?_) (fun h1 => ?_)
  · refine w_iload_n dX0_winnerBy_6 rfl ?_
    refine w_if_le (tgt := 14) (by omega) dX0_winnerBy_7 (by decide) (fun h7 => ?_) (fun h7 => ?_)
    · refine w_iconst dX0_winnerBy_14 ?_
      exact w_iretP rfl dX0_winnerBy_15 (by refine ⟨?_, rfl, fW_bd x⟩; unfold fW; (repeat' split) <;> omega)
    · refine w_iconst dX0_winnerBy_10 ?_
      refine w_goto (tgt := 15) dX0_winnerBy_11 (by decide) ?_
      exact w_iretP rfl dX0_winnerBy_15 (by refine ⟨?_, rfl, fW_bd x⟩; unfold fW; (repeat' split) <;> omega)
  · refine w_iconst dX0_winnerBy_4 ?_
    exact w_iretP rfl dX0_winnerBy_5 (by refine ⟨?_, rfl, fW_bd x⟩; unfold fW; (repeat' split) <;> omega)
set_option maxRecDepth 100000 in
set_option maxHeartbeats 4000000 in
theorem c_X0_isDecidedBy {g : gG} {l : Launch} {μ : gM} {c : Nat} (hc : cn c) {s : Int} {r : Int}  (hI : CI μ c) (hs : 0 ≤ s ∧ s < 6) (hr : 0 ≤ r ∧ r < 7) : CT g l YX0_isDecidedBy 5 [vR c, vI s, vI r] μ (pI fun e μ2 => ((e = 1 ∧ fW (fL (vw μ c) (μ c 0) s) ≠ fW (fL (vw μ c) (μ c 0) s - fB (vw μ c) s r 0 + fB (vw μ c) s r 1)) ∨ (e = 0 ∧ fW (fL (vw μ c) (μ c 0) s) = fW (fL (vw μ c) (μ c 0) s - fB (vw μ c) s r 0 + fB (vw μ c) s r 1))) ∧ μ = μ2) := by
  refine CT.of (n := 2) (by decide) rfl ?_
  show WA g l YX0_isDecidedBy 5 _ 0 [some (vR c), some (vI s), some (vI r), none, none] [] μ
  refine w_aload_n dX0_isDecidedBy_0 rfl ?_
  refine w_iload_n dX0_isDecidedBy_1 rfl ?_
  refine w_cV1 kX0_lead ml_X0_83 (cnO hc) rfl (Nat.le_of_ble_eq_true rfl) (by decide) dX0_isDecidedBy_2 (c_X0_lead hc hI (by omega)) (kI (fun e2 m2 q2 => ?_))
  obtain ⟨rfl, rfl, b2⟩ := q2
  refine w_istore_n dX0_isDecidedBy_5 (by decide) rfl ?_
  refine w_iload_n dX0_isDecidedBy_6 rfl ?_
  refine w_aload_n dX0_isDecidedBy_7 rfl ?_
  refine w_iload_n dX0_isDecidedBy_8 rfl ?_
  refine w_iload_n dX0_isDecidedBy_9 rfl ?_
  refine w_iconst dX0_isDecidedBy_10 ?_
  refine w_cV3 kX0_brokenOf ml_X0_80 (cnO hc) rfl (Nat.le_of_ble_eq_true rfl) (by decide) dX0_isDecidedBy_11 (c_X0_brokenOf hc hI (by omega) (by omega) (by omega)) (kI (fun e11 m11 q11 => ?_))
  obtain ⟨rfl, rfl, b11⟩ := q11
  refine w_isub dX0_isDecidedBy_14 ?_
  refine w_aload_n dX0_isDecidedBy_15 rfl ?_
  refine w_iload_n dX0_isDecidedBy_16 rfl ?_
  refine w_iload_n dX0_isDecidedBy_17 rfl ?_
  refine w_iconst dX0_isDecidedBy_18 ?_
  refine w_cV3 kX0_brokenOf ml_X0_80 (cnO hc) rfl (Nat.le_of_ble_eq_true rfl) (by decide) dX0_isDecidedBy_19 (c_X0_brokenOf hc hI (by omega) (by omega) (by omega)) (kI (fun e19 m19 q19 => ?_))
  obtain ⟨rfl, rfl, b19⟩ := q19
  refine w_iadd dX0_isDecidedBy_22 ?_
  refine w_istore dX0_isDecidedBy_23 (by decide) rfl ?_
  refine w_iload_n dX0_isDecidedBy_25 rfl ?_
  refine w_cS1 kX0_winnerBy ml_X0_87 (Nat.le_of_ble_eq_true rfl) (by decide) dX0_isDecidedBy_26 (c_X0_winnerBy (by omega)) (kI (fun e26 m26 q26 => ?_))
  obtain ⟨rfl, rfl, b26⟩ := q26
  refine w_iload dX0_isDecidedBy_29 rfl ?_
  refine w_cS1 kX0_winnerBy ml_X0_87 (Nat.le_of_ble_eq_true rfl) (by decide) dX0_isDecidedBy_31 (c_X0_winnerBy (by omega)) (kI (fun e31 m31 q31 => ?_))
  obtain ⟨rfl, rfl, b31⟩ := q31
  refine w_icmp_eq (tgt := 41) (by omega) (by omega) dX0_isDecidedBy_34 (by decide) (fun h34 => ?_) (fun h34 => ?_)
  · refine w_iconst dX0_isDecidedBy_41 ?_
    exact w_zretP rfl dX0_isDecidedBy_42 (by omega) (by refine ⟨?_, rfl⟩; omega)
  · refine w_iconst dX0_isDecidedBy_37 ?_
    refine w_goto (tgt := 42) dX0_isDecidedBy_38 (by decide) ?_
    exact w_zretP rfl dX0_isDecidedBy_42 (by omega) (by refine ⟨?_, rfl⟩; omega)
set_option maxRecDepth 100000 in
set_option maxHeartbeats 4000000 in
theorem c_X0_allChances {g : gG} {l : Launch} {μ : gM} {c : Nat} (hc : cn c)  (hI : CI μ c) : CT g l YX0_allChances 0 [vR c] μ (pI fun e μ2 => e = fC (vw μ c) (μ c 1) ∧ μ = μ2 ∧ 0 ≤ fC (vw μ c) (μ c 1) ∧ fC (vw μ c) (μ c 1) ≤ 54) := by
  have hN := CI_roofs hI
  have hM := CI_storms hI
  have hV := CI.VI hI
  refine CT.of (n := 2) (by decide) rfl ?_
  show WA g l YX0_allChances 0 _ 0 [some (vR c), none, none] [] μ
  refine w_iconst dX0_allChances_0 ?_
  refine w_istore_n dX0_allChances_1 (by decide) rfl ?_
  refine w_iconst dX0_allChances_2 ?_
  refine w_istore_n dX0_allChances_3 (by decide) rfl ?_
  refine w_loop (ι := Int × Int) (fun i => match i with | (a, k) => 0 ≤ k ∧ k ≤ μ c 1 ∧ a = sI (fun s => (vw μ c) 10 s) k) (fun i => match i with | (a, k) => (μ c 1 - k).toNat) (fun i => match i with | (a, k) => [some (vR c), some (vI a), some (vI k)]) (fun i => match i with | (a, k) => μ) ?_ (0, 0) ⟨by omega, by omega, rfl⟩
  intro i_ hinv4 ih4
  obtain ⟨a, k⟩ := i_
  dsimp only at hinv4 ih4 ⊢
  obtain ⟨h1, h2, h3⟩ := hinv4
  refine w_iload_n dX0_allChances_4 rfl ?_
  refine w_aload_n dX0_allChances_5 rfl ?_
  refine gf_X0_49 rfl (cnO hc) dX0_allChances_6 ?_
  refine w_icmp_ge (tgt := 27) (by omega) (by omega) dX0_allChances_9 (by decide) (fun h9 => ?_) (fun h9 => ?_)
  · refine w_iload_n dX0_allChances_27 rfl ?_
    exact w_iretP rfl dX0_allChances_28 (by have e0 : k = μ c 1 := (by omega); subst e0; exact ⟨h3, rfl, fC_bd hV hM⟩)
  · refine w_iload_n dX0_allChances_12 rfl ?_
    refine w_aload_n dX0_allChances_13 rfl ?_
    refine gf_X0_39 rfl (cnO hc) dX0_allChances_14 ?_
    refine w_iload_n dX0_allChances_17 rfl ?_
    refine w_ialdB (CI_chance hI) (cA_chance hc) (by omega) dX0_allChances_18 (fun b18 => ?_)
    refine w_iadd dX0_allChances_19 ?_
    refine w_istore_n dX0_allChances_20 (by decide) rfl ?_
    refine w_iinc dX0_allChances_21 rfl (by decide) rfl ?_
    refine w_goto (tgt := 4) dX0_allChances_24 (by decide) ?_
    exact ih4 (_, _) ⟨by omega, by omega, by rw [sI_s _ h1, h3]; rfl⟩ (by omega)
set_option maxRecDepth 100000 in
set_option maxHeartbeats 4000000 in
theorem c_X0_chancesOf {g : gG} {l : Launch} {μ : gM} {c : Nat} (hc : cn c) {who : Int}  (hI : CI μ c) (hwh : -1 ≤ who ∧ who ≤ 1) : CT g l YX0_chancesOf 5 [vR c, vI who] μ (pI fun e μ2 => e = fO (vw μ c) (μ c 0) (μ c 1) who ∧ μ = μ2 ∧ 0 ≤ fO (vw μ c) (μ c 0) (μ c 1) who ∧ fO (vw μ c) (μ c 0) (μ c 1) who ≤ 54) := by
  have hN := CI_roofs hI
  have hM := CI_storms hI
  have hV := CI.VI hI
  refine CT.of (n := 2) (by decide) rfl ?_
  show WA g l YX0_chancesOf 5 _ 0 [some (vR c), some (vI who), none, none] [] μ
  refine w_iconst dX0_chancesOf_0 ?_
  refine w_istore_n dX0_chancesOf_1 (by decide) rfl ?_
  refine w_iconst dX0_chancesOf_2 ?_
  refine w_istore_n dX0_chancesOf_3 (by decide) rfl ?_
  refine w_loop (ι := Int × Int) (fun i => match i with | (a, k) => 0 ≤ k ∧ k ≤ μ c 1 ∧ a = sI (fun s => if fW (fL (vw μ c) (μ c 0) s) = who then (vw μ c) 10 s else 0) k) (fun i => match i with | (a, k) => (μ c 1 - k).toNat) (fun i => match i with | (a, k) => [some (vR c), some (vI who), some (vI a), some (vI k)]) (fun i => match i with | (a, k) => μ) ?_ (0, 0) ⟨by omega, by omega, rfl⟩
  intro i_ hinv4 ih4
  obtain ⟨a, k⟩ := i_
  dsimp only at hinv4 ih4 ⊢
  obtain ⟨h1, h2, h3⟩ := hinv4
  refine w_iload_n dX0_chancesOf_4 rfl ?_
  refine w_aload_n dX0_chancesOf_5 rfl ?_
  refine gf_X0_49 rfl (cnO hc) dX0_chancesOf_6 ?_
  refine w_icmp_ge (tgt := 39) (by omega) (by omega) dX0_chancesOf_9 (by decide) (fun h9 => ?_) (fun h9 => ?_)
  · refine w_iload_n dX0_chancesOf_39 rfl ?_
    exact w_iretP rfl dX0_chancesOf_40 (by have e0 : k = μ c 1 := (by omega); subst e0; exact ⟨h3, rfl, fO_bd hV hM _ _⟩)
  · refine w_aload_n dX0_chancesOf_12 rfl ?_
    refine w_iload_n dX0_chancesOf_13 rfl ?_
    refine w_cV1 kX0_lead ml_X0_83 (cnO hc) rfl (Nat.le_of_ble_eq_true rfl) (by decide) dX0_chancesOf_14 (c_X0_lead hc hI (by omega)) (kI (fun e14 m14 q14 => ?_))
    obtain ⟨rfl, rfl, b14⟩ := q14
    refine w_cS1 kX0_winnerBy ml_X0_87 (Nat.le_of_ble_eq_true rfl) (by decide) dX0_chancesOf_17 (c_X0_winnerBy (by omega)) (kI (fun e17 m17 q17 => ?_))
    obtain ⟨rfl, rfl, b17⟩ := q17
    refine w_iload_n dX0_chancesOf_20 rfl ?_
    refine w_icmp_ne (tgt := 33) (by omega) (by omega) dX0_chancesOf_21 (by decide) (fun h21 => ?_) (fun h21 => ?_)
    · refine w_iinc dX0_chancesOf_33 rfl (by decide) rfl ?_
      refine w_goto (tgt := 4) dX0_chancesOf_36 (by decide) ?_
      exact ih4 (_, _) ⟨by omega, by omega, by rw [sI_s _ h1, ← h3]; simp only [vw_a]; split <;> omega⟩ (by omega)
    · refine w_iload_n dX0_chancesOf_24 rfl ?_
      refine w_aload_n dX0_chancesOf_25 rfl ?_
      refine gf_X0_39 rfl (cnO hc) dX0_chancesOf_26 ?_
      refine w_iload_n dX0_chancesOf_29 rfl ?_
      refine w_ialdB (CI_chance hI) (cA_chance hc) (by omega) dX0_chancesOf_30 (fun b30 => ?_)
      refine w_iadd dX0_chancesOf_31 ?_
      refine w_istore_n dX0_chancesOf_32 (by decide) rfl ?_
      refine w_iinc dX0_chancesOf_33 rfl (by decide) rfl ?_
      refine w_goto (tgt := 4) dX0_chancesOf_36 (by decide) ?_
      exact ih4 (_, _) ⟨by omega, by omega, by rw [sI_s _ h1, ← h3]; simp only [vw_a]; split <;> omega⟩ (by omega)
set_option maxRecDepth 100000 in
set_option maxHeartbeats 4000000 in
theorem c_X0_edgeOfBlue {g : gG} {l : Launch} {μ : gM} {c : Nat} (hc : cn c)  (hI : CI μ c) : CT g l YX0_edgeOfBlue 5 [vR c] μ (pI fun e μ2 => e = fE (vw μ c) (μ c 0) (μ c 1) ∧ μ = μ2 ∧ -54 ≤ fE (vw μ c) (μ c 0) (μ c 1) ∧ fE (vw μ c) (μ c 0) (μ c 1) ≤ 54) := by
  have hN := CI_roofs hI
  have hM := CI_storms hI
  have hV := CI.VI hI
  refine CT.of (n := 3) (by decide) rfl ?_
  show WA g l YX0_edgeOfBlue 5 _ 0 [some (vR c), none, none, none] [] μ
  refine w_iconst dX0_edgeOfBlue_0 ?_
  refine w_istore_n dX0_edgeOfBlue_1 (by decide) rfl ?_
  refine w_iconst dX0_edgeOfBlue_2 ?_
  refine w_istore_n dX0_edgeOfBlue_3 (by decide) rfl ?_
  refine w_loop (ι := Int × Int) (fun i => match i with | (a, k) => 0 ≤ k ∧ k ≤ μ c 1 ∧ a = sI (fun s => if fL (vw μ c) (μ c 0) s < 0 then (vw μ c) 10 s else if 0 < fL (vw μ c) (μ c 0) s then - (vw μ c) 10 s else 0) k) (fun i => match i with | (a, k) => (μ c 1 - k).toNat) (fun i => match i with | (a, k) => [some (vR c), some (vI a), some (vI k), none]) (fun i => match i with | (a, k) => μ) ?_ (0, 0) ⟨by omega, by omega, rfl⟩
  intro i_ hinv4 ih4
  obtain ⟨a, k⟩ := i_
  dsimp only at hinv4 ih4 ⊢
  obtain ⟨h1, h2, h3⟩ := hinv4
  refine w_iload_n dX0_edgeOfBlue_4 rfl ?_
  refine w_aload_n dX0_edgeOfBlue_5 rfl ?_
  refine gf_X0_49 rfl (cnO hc) dX0_edgeOfBlue_6 ?_
  refine w_icmp_ge (tgt := 53) (by omega) (by omega) dX0_edgeOfBlue_9 (by decide) (fun h9 => ?_) (fun h9 => ?_)
  · refine w_iload_n dX0_edgeOfBlue_53 rfl ?_
    exact w_iretP rfl dX0_edgeOfBlue_54 (by have e0 : k = μ c 1 := (by omega); subst e0; exact ⟨h3, rfl, fE_bd hV hM _⟩)
  · refine w_aload_n dX0_edgeOfBlue_12 rfl ?_
    refine w_iload_n dX0_edgeOfBlue_13 rfl ?_
    refine w_cV1 kX0_lead ml_X0_83 (cnO hc) rfl (Nat.le_of_ble_eq_true rfl) (by decide) dX0_edgeOfBlue_14 (c_X0_lead hc hI (by omega)) (kI (fun e14 m14 q14 => ?_))
    obtain ⟨rfl, rfl, b14⟩ := q14
    refine w_istore_n dX0_edgeOfBlue_17 (by decide) rfl ?_
    refine w_iload_n dX0_edgeOfBlue_18 rfl ?_
    refine w_if_ge (tgt := 34) (by omega) dX0_edgeOfBlue_19 (by decide) (fun h19 => ?_) (fun h19 => ?_)
    · refine w_iload_n dX0_edgeOfBlue_34 rfl ?_
      refine w_if_le (tgt := 47) (by omega) dX0_edgeOfBlue_35 (by decide) (fun h35 => ?_) (fun h35 => ?_)
      · refine w_iinc dX0_edgeOfBlue_47 rfl (by decide) rfl ?_
        refine w_goto (tgt := 4) dX0_edgeOfBlue_50 (by decide) ?_
        refine w_drop 3 ?_
        exact ih4 (_, _) ⟨by omega, by omega, by rw [sI_s _ h1, ← h3]; simp only [vw_a]; (repeat' split) <;> omega⟩ (by omega)
      · refine w_iload_n dX0_edgeOfBlue_38 rfl ?_
        refine w_aload_n dX0_edgeOfBlue_39 rfl ?_
        refine gf_X0_39 rfl (cnO hc) dX0_edgeOfBlue_40 ?_
        refine w_iload_n dX0_edgeOfBlue_43 rfl ?_
        refine w_ialdB (CI_chance hI) (cA_chance hc) (by omega) dX0_edgeOfBlue_44 (fun b44 => ?_)
        refine w_isub dX0_edgeOfBlue_45 ?_
        refine w_istore_n dX0_edgeOfBlue_46 (by decide) rfl ?_
        refine w_iinc dX0_edgeOfBlue_47 rfl (by decide) rfl ?_
        refine w_goto (tgt := 4) dX0_edgeOfBlue_50 (by decide) ?_
        refine w_drop 3 ?_
        exact ih4 (_, _) ⟨by omega, by omega, by rw [sI_s _ h1, ← h3]; simp only [vw_a]; (repeat' split) <;> omega⟩ (by omega)
    · refine w_iload_n dX0_edgeOfBlue_22 rfl ?_
      refine w_aload_n dX0_edgeOfBlue_23 rfl ?_
      refine gf_X0_39 rfl (cnO hc) dX0_edgeOfBlue_24 ?_
      refine w_iload_n dX0_edgeOfBlue_27 rfl ?_
      refine w_ialdB (CI_chance hI) (cA_chance hc) (by omega) dX0_edgeOfBlue_28 (fun b28 => ?_)
      refine w_iadd dX0_edgeOfBlue_29 ?_
      refine w_istore_n dX0_edgeOfBlue_30 (by decide) rfl ?_
      refine w_goto (tgt := 47) dX0_edgeOfBlue_31 (by decide) ?_
      refine w_iinc dX0_edgeOfBlue_47 rfl (by decide) rfl ?_
      refine w_goto (tgt := 4) dX0_edgeOfBlue_50 (by decide) ?_
      refine w_drop 3 ?_
      exact ih4 (_, _) ⟨by omega, by omega, by rw [sI_s _ h1, ← h3]; simp only [vw_a]; (repeat' split) <;> omega⟩ (by omega)
set_option maxRecDepth 100000 in
set_option maxHeartbeats 4000000 in
theorem c_X0_chancesWithGun {g : gG} {l : Launch} {μ : gM} {c : Nat} (hc : cn c) {p : Int} {who : Int}  (hI : CI μ c) (hp : 0 ≤ p ∧ p < 7) (hwh : -1 ≤ who ∧ who ≤ 1) (hz : μ (c + 11) p = 0) : CT g l YX0_chancesWithGun 6 [vR c, vI p, vI who] μ (pI fun e μ2 => e = fO (vw (wr μ (c + 11) p 1) c) (μ c 0) (μ c 1) who ∧ μ = μ2 ∧ 0 ≤ fO (vw (wr μ (c + 11) p 1) c) (μ c 0) (μ c 1) who ∧ fO (vw (wr μ (c + 11) p 1) c) (μ c 0) (μ c 1) who ≤ 54) := by
  have hI1 : CI (wr μ (c + 11) p 1) c := CI_guns_wr hI (by decide)
  have e0 : wr μ (c + 11) p 1 c = μ c := wr_o (by omega)
  refine CT.of (n := 1) (by decide) rfl ?_
  show WA g l YX0_chancesWithGun 6 _ 0 [some (vR c), some (vI p), some (vI who), none] [] μ
  refine w_aload_n dX0_chancesWithGun_0 rfl ?_
  refine gf_X0_42 rfl (cnO hc) dX0_chancesWithGun_1 ?_
  refine w_iload_n dX0_chancesWithGun_4 rfl ?_
  refine w_iconst dX0_chancesWithGun_5 ?_
  refine w_iast (cA_guns hc) (by omega) dX0_chancesWithGun_6 ?_
  refine w_aload_n dX0_chancesWithGun_7 rfl ?_
  refine w_iload_n dX0_chancesWithGun_8 rfl ?_
  refine w_cV1 kX0_chancesOf ml_X0_90 (cnO hc) rfl (Nat.le_of_ble_eq_true rfl) (by decide) dX0_chancesWithGun_9 (c_X0_chancesOf hc hI1 (by omega)) (kI (fun e9 m9 q9 => ?_))
  obtain ⟨rfl, rfl, b9⟩ := q9
  rw [e0] at b9 ⊢
  refine w_istore_n dX0_chancesWithGun_12 (by decide) rfl ?_
  refine w_aload_n dX0_chancesWithGun_13 rfl ?_
  refine gf_X0_42 rfl (cnO hc) dX0_chancesWithGun_14 ?_
  refine w_iload_n dX0_chancesWithGun_17 rfl ?_
  refine w_iconst dX0_chancesWithGun_18 ?_
  refine w_iast (cA_guns hc) (by omega) dX0_chancesWithGun_19 ?_
  refine w_iload_n dX0_chancesWithGun_20 rfl ?_
  exact w_iretP rfl dX0_chancesWithGun_21 (by rw [wr_wr, wr_same hz]; exact ⟨rfl, rfl, b9⟩)
set_option maxRecDepth 100000 in
set_option maxHeartbeats 4000000 in
theorem c_X0_keepsEdge {g : gG} {l : Launch} {μ : gM} {c : Nat} (hc : cn c) {k : Int} {x : Int}  (hI : CI μ c) (hk : 0 ≤ k ∧ k < 14) (hx : -100 ≤ x ∧ x ≤ 100) (hcv : ∀ j, μ (c + 3) j ≤ 19) : CT g l YX0_keepsEdge 6 [vR c, vI k, vI x] μ (pI fun e μ2 => ((e = 1 ∧ μ (c + 3) (4 * 0 + 2 * k + 1) ≠ 0 ∧ fE (vw (wr (wr μ (c + 3) (4 * 0 + 2 * k + 1) (μ (c + 3) (4 * 0 + 2 * k + 1) - 1)) (c + 3) (4 * 0 + 2 * k + 0) (μ (c + 3) (4 * 0 + 2 * k + 0) + 1)) c) (μ c 0) (μ c 1) = x) ∨ (e = 0 ∧ (μ (c + 3) (4 * 0 + 2 * k + 1) = 0 ∨ fE (vw (wr (wr μ (c + 3) (4 * 0 + 2 * k + 1) (μ (c + 3) (4 * 0 + 2 * k + 1) - 1)) (c + 3) (4 * 0 + 2 * k + 0) (μ (c + 3) (4 * 0 + 2 * k + 0) + 1)) c) (μ c 0) (μ c 1) ≠ x))) ∧ μ = μ2) := by
  refine CT.of (n := 3) (by decide) rfl ?_
  show WA g l YX0_keepsEdge 6 _ 0 [some (vR c), some (vI k), some (vI x), none, none, none] [] μ
  refine w_iconst dX0_keepsEdge_0 ?_
  refine w_iload_n dX0_keepsEdge_1 rfl ?_
  refine w_iconst dX0_keepsEdge_2 ?_
  refine w_cS3 kX0_row ml_X0_61 (Nat.le_of_ble_eq_true rfl) (by decide) dX0_keepsEdge_3 (c_X0_row) (kI (fun e3 m3 q3 => ?_))
  obtain ⟨rfl, rfl⟩ := q3
  refine w_istore_n dX0_keepsEdge_6 (by decide) rfl ?_
  refine w_iconst dX0_keepsEdge_7 ?_
  refine w_iload_n dX0_keepsEdge_8 rfl ?_
  refine w_iconst dX0_keepsEdge_9 ?_
  refine w_cS3 kX0_row ml_X0_61 (Nat.le_of_ble_eq_true rfl) (by decide) dX0_keepsEdge_10 (c_X0_row) (kI (fun e10 m10 q10 => ?_))
  obtain ⟨rfl, rfl⟩ := q10
  refine w_istore dX0_keepsEdge_13 (by decide) rfl ?_
  refine w_aload_n dX0_keepsEdge_15 rfl ?_
  refine gf_X0_18 rfl (cnO hc) dX0_keepsEdge_16 ?_
  refine w_iload dX0_keepsEdge_19 rfl ?_
  refine w_ialdB (CI_cover hI) (cA_cover hc) (by omega) dX0_keepsEdge_21 (fun b21 => ?_)
  refine w_if_ne (tgt := 27) (by omega) dX0_keepsEdge_22 (by decide) (fun h22 => ?_) (fun h22 => ?_)
  · have hI1 : CI (wr μ (c + 3) (4 * 0 + 2 * k + 1) (μ (c + 3) (4 * 0 + 2 * k + 1) - 1)) c := CI_cover_wr hI (by omega)
    have hnn : (4 * 0 + 2 * k + 0 : Int) ≠ 4 * 0 + 2 * k + 1 := by omega
    have ew : wr μ (c + 3) (4 * 0 + 2 * k + 1) (μ (c + 3) (4 * 0 + 2 * k + 1) - 1) (c + 3) (4 * 0 + 2 * k + 0) = μ (c + 3) (4 * 0 + 2 * k + 0) := wr_n hnn
    have hb0 := CI_cover hI (4 * 0 + 2 * k + 0)
    have hb1 := hcv (4 * 0 + 2 * k + 0)
    refine w_aload_n dX0_keepsEdge_27 rfl ?_
    refine gf_X0_18 rfl (cnO hc) dX0_keepsEdge_28 ?_
    refine w_iload dX0_keepsEdge_31 rfl ?_
    refine w_dup2 dX0_keepsEdge_33 ?_
    refine w_iald (cA_cover hc) (by omega) dX0_keepsEdge_34 ?_
    refine w_iconst dX0_keepsEdge_35 ?_
    refine w_isub dX0_keepsEdge_36 ?_
    refine w_iast (cA_cover hc) (by omega) dX0_keepsEdge_37 ?_
    refine w_aload_n dX0_keepsEdge_38 rfl ?_
    refine gf_X0_18 rfl (cnO hc) dX0_keepsEdge_39 ?_
    refine w_iload_n dX0_keepsEdge_42 rfl ?_
    refine w_dup2 dX0_keepsEdge_43 ?_
    refine w_iald (cA_cover hc) (by omega) dX0_keepsEdge_44 ?_
    refine w_iconst dX0_keepsEdge_45 ?_
    refine w_iadd dX0_keepsEdge_46 ?_
    refine w_iast (cA_cover hc) (by omega) dX0_keepsEdge_47 ?_
    have hI2 := CI_cover_wr (i := 4 * 0 + 2 * k + 0) (x := wr μ (c + 3) (4 * 0 + 2 * k + 1) (μ (c + 3) (4 * 0 + 2 * k + 1) - 1) (c + 3) (4 * 0 + 2 * k + 0) + 1) hI1 (by omega)
    have e0 : ∀ (y : Int), wr (wr μ (c + 3) (4 * 0 + 2 * k + 1) (μ (c + 3) (4 * 0 + 2 * k + 1) - 1)) (c + 3) (4 * 0 + 2 * k + 0) y c = μ c := fun y => (wr_o (by omega)).trans (wr_o (by omega))
    refine w_aload_n dX0_keepsEdge_48 rfl ?_
    refine w_cV0 kX0_edgeOfBlue ml_X0_93 (cnO hc) rfl (Nat.le_of_ble_eq_true rfl) (by decide) dX0_keepsEdge_49 (c_X0_edgeOfBlue hc hI2) (kI (fun e49 m49 q49 => ?_))
    obtain ⟨rfl, rfl, b49⟩ := q49
    rw [e0] at b49 ⊢
    refine w_iload_n dX0_keepsEdge_52 rfl ?_
    refine w_icmp_ne (tgt := 60) (by omega) (by omega) dX0_keepsEdge_53 (by decide) (fun h53 => ?_) (fun h53 => ?_)
    · refine w_iconst dX0_keepsEdge_60 ?_
      refine w_istore dX0_keepsEdge_61 (by decide) rfl ?_
      refine w_aload_n dX0_keepsEdge_63 rfl ?_
      refine gf_X0_18 rfl (cnO hc) dX0_keepsEdge_64 ?_
      refine w_iload_n dX0_keepsEdge_67 rfl ?_
      refine w_dup2 dX0_keepsEdge_68 ?_
      refine w_iald (cA_cover hc) (by omega) dX0_keepsEdge_69 ?_
      refine w_iconst dX0_keepsEdge_70 ?_
      refine w_isub dX0_keepsEdge_71 ?_
      refine w_iast (cA_cover hc) (by omega) dX0_keepsEdge_72 ?_
      refine w_aload_n dX0_keepsEdge_73 rfl ?_
      refine gf_X0_18 rfl (cnO hc) dX0_keepsEdge_74 ?_
      refine w_iload dX0_keepsEdge_77 rfl ?_
      refine w_dup2 dX0_keepsEdge_79 ?_
      refine w_iald (cA_cover hc) (by omega) dX0_keepsEdge_80 ?_
      refine w_iconst dX0_keepsEdge_81 ?_
      refine w_iadd dX0_keepsEdge_82 ?_
      refine w_iast (cA_cover hc) (by omega) dX0_keepsEdge_83 ?_
      refine w_iload dX0_keepsEdge_84 rfl ?_
      exact w_zretP rfl dX0_keepsEdge_86 (by omega) (by rw [wr_restore hnn]; refine ⟨?_, rfl⟩; rw [ew] at h53; omega)
    · refine w_iconst dX0_keepsEdge_56 ?_
      refine w_goto (tgt := 61) dX0_keepsEdge_57 (by decide) ?_
      refine w_istore dX0_keepsEdge_61 (by decide) rfl ?_
      refine w_aload_n dX0_keepsEdge_63 rfl ?_
      refine gf_X0_18 rfl (cnO hc) dX0_keepsEdge_64 ?_
      refine w_iload_n dX0_keepsEdge_67 rfl ?_
      refine w_dup2 dX0_keepsEdge_68 ?_
      refine w_iald (cA_cover hc) (by omega) dX0_keepsEdge_69 ?_
      refine w_iconst dX0_keepsEdge_70 ?_
      refine w_isub dX0_keepsEdge_71 ?_
      refine w_iast (cA_cover hc) (by omega) dX0_keepsEdge_72 ?_
      refine w_aload_n dX0_keepsEdge_73 rfl ?_
      refine gf_X0_18 rfl (cnO hc) dX0_keepsEdge_74 ?_
      refine w_iload dX0_keepsEdge_77 rfl ?_
      refine w_dup2 dX0_keepsEdge_79 ?_
      refine w_iald (cA_cover hc) (by omega) dX0_keepsEdge_80 ?_
      refine w_iconst dX0_keepsEdge_81 ?_
      refine w_iadd dX0_keepsEdge_82 ?_
      refine w_iast (cA_cover hc) (by omega) dX0_keepsEdge_83 ?_
      refine w_iload dX0_keepsEdge_84 rfl ?_
      exact w_zretP rfl dX0_keepsEdge_86 (by omega) (by rw [wr_restore hnn]; refine ⟨?_, rfl⟩; rw [ew] at h53; omega)
  · refine w_iconst dX0_keepsEdge_25 ?_
    exact w_zretP rfl dX0_keepsEdge_26 (by omega) (by refine ⟨?_, rfl⟩; omega)
set_option maxRecDepth 100000 in
set_option maxHeartbeats 4000000 in
theorem c_X0_allGuns {g : gG} {l : Launch} {μ : gM} {c : Nat} (hc : cn c)  (hI : CI μ c) : CT g l YX0_allGuns 0 [vR c] μ (pI fun e μ2 => e = sI (fun k => (vw μ c) 11 k) 7 ∧ μ = μ2) := by
  refine CT.of (n := 2) (by decide) rfl ?_
  show WA g l YX0_allGuns 0 _ 0 [some (vR c), none, none] [] μ
  refine w_iconst dX0_allGuns_0 ?_
  refine w_istore_n dX0_allGuns_1 (by decide) rfl ?_
  refine w_iconst dX0_allGuns_2 ?_
  refine w_istore_n dX0_allGuns_3 (by decide) rfl ?_
  refine w_loop (ι := Int × Int) (fun i => match i with | (a, k) => 0 ≤ k ∧ k ≤ 7 ∧ a = sI (fun k => (vw μ c) 11 k) k) (fun i => match i with | (a, k) => (7 - k).toNat) (fun i => match i with | (a, k) => [some (vR c), some (vI a), some (vI k)]) (fun i => match i with | (a, k) => μ) ?_ (0, 0) ⟨by omega, by omega, rfl⟩
  intro i_ hinv4 ih4
  obtain ⟨a, k⟩ := i_
  dsimp only at hinv4 ih4 ⊢
  obtain ⟨h1, h2, h3⟩ := hinv4
  refine w_iload_n dX0_allGuns_4 rfl ?_
  refine w_bipush dX0_allGuns_5 (by decide) ?_
  refine w_icmp_ge (tgt := 25) (by omega) (by omega) dX0_allGuns_7 (by decide) (fun h7 => ?_) (fun h7 => ?_)
  · refine w_iload_n dX0_allGuns_25 rfl ?_
    exact w_iretP rfl dX0_allGuns_26 (by have e0 : k = 7 := (by omega); subst e0; exact ⟨h3, rfl⟩)
  · refine w_iload_n dX0_allGuns_10 rfl ?_
    refine w_aload_n dX0_allGuns_11 rfl ?_
    refine gf_X0_42 rfl (cnO hc) dX0_allGuns_12 ?_
    refine w_iload_n dX0_allGuns_15 rfl ?_
    refine w_ialdB (CI_guns hI) (cA_guns hc) (by omega) dX0_allGuns_16 (fun b16 => ?_)
    refine w_iadd dX0_allGuns_17 ?_
    refine w_istore_n dX0_allGuns_18 (by decide) rfl ?_
    refine w_iinc dX0_allGuns_19 rfl (by decide) rfl ?_
    refine w_goto (tgt := 4) dX0_allGuns_22 (by decide) ?_
    exact ih4 (_, _) ⟨by omega, by omega, by rw [sI_s _ h1, h3]; rfl⟩ (by omega)
end
