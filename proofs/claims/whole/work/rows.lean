section
-- ===== PART A: goes FIRST, ahead of the names: the tables' words, and 'selects' of the private methods out of them =====
/-- a private method of a class that the tables say can be made, by its rows of tables_1 -/
def lw_okq (q : MethodName × Nat) : Prop := (q.1.cls ≠ "java/lang/invoke/MethodHandle" ∧ q.1.cls ≠ "java/lang/invoke/VarHandle") ∧ Cond.instantiable q.1.cls q.2 ∈ tables_1 ∧ Cond.privateMethod q.1 ∈ tables_1 ∧ Cond.instanceMethod q.1 ∈ tables_1
theorem lw_p0 : lw_okq (⟨"OddUmbrellas", "keepState", "()V"⟩, 10) := ⟨⟨by decide +kernel, by decide +kernel⟩, List.mem_of_getElem? (i := 15) (by decide +kernel), List.mem_of_getElem? (i := 174) (by decide +kernel), List.mem_of_getElem? (i := 175) (by decide +kernel)⟩
theorem lw_p1 : lw_okq (⟨"OddUmbrellas$Office", "addTo", "(II)V"⟩, 5) := ⟨⟨by decide +kernel, by decide +kernel⟩, List.mem_of_getElem? (i := 23) (by decide +kernel), List.mem_of_getElem? (i := 196) (by decide +kernel), List.mem_of_getElem? (i := 197) (by decide +kernel)⟩
theorem lw_p2 : lw_okq (⟨"OddUmbrellas", "recorded", "(I)I"⟩, 10) := ⟨⟨by decide +kernel, by decide +kernel⟩, List.mem_of_getElem? (i := 15) (by decide +kernel), List.mem_of_getElem? (i := 204) (by decide +kernel), List.mem_of_getElem? (i := 205) (by decide +kernel)⟩
theorem lw_p3 : lw_okq (⟨"OddUmbrellas", "forgetOldestState", "()V"⟩, 10) := ⟨⟨by decide +kernel, by decide +kernel⟩, List.mem_of_getElem? (i := 15) (by decide +kernel), List.mem_of_getElem? (i := 208) (by decide +kernel), List.mem_of_getElem? (i := 209) (by decide +kernel)⟩
theorem lw_p4 : lw_okq (⟨"OddUmbrellas$Office", "growOlder", "(LOddUmbrellas$Rows;)V"⟩, 5) := ⟨⟨by decide +kernel, by decide +kernel⟩, List.mem_of_getElem? (i := 23) (by decide +kernel), List.mem_of_getElem? (i := 275) (by decide +kernel), List.mem_of_getElem? (i := 276) (by decide +kernel)⟩
theorem lw_p5 : lw_okq (⟨"OddUmbrellas$Office", "endOld", "(LOddUmbrellas$Rows;III)V"⟩, 5) := ⟨⟨by decide +kernel, by decide +kernel⟩, List.mem_of_getElem? (i := 23) (by decide +kernel), List.mem_of_getElem? (i := 283) (by decide +kernel), List.mem_of_getElem? (i := 284) (by decide +kernel)⟩
theorem lw_p6 : lw_okq (⟨"OddUmbrellas$Office", "enter", "(III)V"⟩, 5) := ⟨⟨by decide +kernel, by decide +kernel⟩, List.mem_of_getElem? (i := 23) (by decide +kernel), List.mem_of_getElem? (i := 287) (by decide +kernel), List.mem_of_getElem? (i := 288) (by decide +kernel)⟩
theorem lw_p7 : lw_okq (⟨"OddUmbrellas$Matching", "noteOddness", "(LOddUmbrellas$Office;)V"⟩, 10) := ⟨⟨by decide +kernel, by decide +kernel⟩, List.mem_of_getElem? (i := 72) (by decide +kernel), List.mem_of_getElem? (i := 306) (by decide +kernel), List.mem_of_getElem? (i := 307) (by decide +kernel)⟩
theorem lw_p8 : lw_okq (⟨"OddUmbrellas$Matching", "weigh", "(IILOddUmbrellas$Office;)V"⟩, 10) := ⟨⟨by decide +kernel, by decide +kernel⟩, List.mem_of_getElem? (i := 72) (by decide +kernel), List.mem_of_getElem? (i := 311) (by decide +kernel), List.mem_of_getElem? (i := 312) (by decide +kernel)⟩
theorem lw_p9 : lw_okq (⟨"OddUmbrellas$Matching", "pairOf", "(II)I"⟩, 10) := ⟨⟨by decide +kernel, by decide +kernel⟩, List.mem_of_getElem? (i := 72) (by decide +kernel), List.mem_of_getElem? (i := 319) (by decide +kernel), List.mem_of_getElem? (i := 320) (by decide +kernel)⟩
theorem lw_p10 : lw_okq (⟨"OddUmbrellas$Matching", "matchNone", "()V"⟩, 10) := ⟨⟨by decide +kernel, by decide +kernel⟩, List.mem_of_getElem? (i := 72) (by decide +kernel), List.mem_of_getElem? (i := 323) (by decide +kernel), List.mem_of_getElem? (i := 324) (by decide +kernel)⟩
theorem lw_p11 : lw_okq (⟨"OddUmbrellas$Matching", "bestFreePair", "()I"⟩, 10) := ⟨⟨by decide +kernel, by decide +kernel⟩, List.mem_of_getElem? (i := 72) (by decide +kernel), List.mem_of_getElem? (i := 327) (by decide +kernel), List.mem_of_getElem? (i := 328) (by decide +kernel)⟩
theorem lw_p12 : lw_okq (⟨"OddUmbrellas$Matching", "suits", "(II)Z"⟩, 10) := ⟨⟨by decide +kernel, by decide +kernel⟩, List.mem_of_getElem? (i := 72) (by decide +kernel), List.mem_of_getElem? (i := 339) (by decide +kernel), List.mem_of_getElem? (i := 340) (by decide +kernel)⟩
theorem lw_p13 : lw_okq (⟨"OddUmbrellas$Matching", "aheadOf", "(II)I"⟩, 10) := ⟨⟨by decide +kernel, by decide +kernel⟩, List.mem_of_getElem? (i := 72) (by decide +kernel), List.mem_of_getElem? (i := 343) (by decide +kernel), List.mem_of_getElem? (i := 344) (by decide +kernel)⟩
theorem lw_p14 : lw_okq (⟨"OddUmbrellas$Matching", "join", "(II)V"⟩, 10) := ⟨⟨by decide +kernel, by decide +kernel⟩, List.mem_of_getElem? (i := 72) (by decide +kernel), List.mem_of_getElem? (i := 347) (by decide +kernel), List.mem_of_getElem? (i := 348) (by decide +kernel)⟩
theorem lw_p15 : lw_okq (⟨"OddUmbrellas", "isPair", "(II)Z"⟩, 10) := ⟨⟨by decide +kernel, by decide +kernel⟩, List.mem_of_getElem? (i := 15) (by decide +kernel), List.mem_of_getElem? (i := 411) (by decide +kernel), List.mem_of_getElem? (i := 412) (by decide +kernel)⟩
def lw_privs_1 : List (MethodName × Nat) := [(⟨"OddUmbrellas", "keepState", "()V"⟩, 10), (⟨"OddUmbrellas$Office", "addTo", "(II)V"⟩, 5), (⟨"OddUmbrellas", "recorded", "(I)I"⟩, 10), (⟨"OddUmbrellas", "forgetOldestState", "()V"⟩, 10), (⟨"OddUmbrellas$Office", "growOlder", "(LOddUmbrellas$Rows;)V"⟩, 5), (⟨"OddUmbrellas$Office", "endOld", "(LOddUmbrellas$Rows;III)V"⟩, 5), (⟨"OddUmbrellas$Office", "enter", "(III)V"⟩, 5), (⟨"OddUmbrellas$Matching", "noteOddness", "(LOddUmbrellas$Office;)V"⟩, 10), (⟨"OddUmbrellas$Matching", "weigh", "(IILOddUmbrellas$Office;)V"⟩, 10), (⟨"OddUmbrellas$Matching", "pairOf", "(II)I"⟩, 10), (⟨"OddUmbrellas$Matching", "matchNone", "()V"⟩, 10), (⟨"OddUmbrellas$Matching", "bestFreePair", "()I"⟩, 10), (⟨"OddUmbrellas$Matching", "suits", "(II)Z"⟩, 10), (⟨"OddUmbrellas$Matching", "aheadOf", "(II)I"⟩, 10), (⟨"OddUmbrellas$Matching", "join", "(II)V"⟩, 10), (⟨"OddUmbrellas", "isPair", "(II)Z"⟩, 10)]
theorem lw_r1 : ∀ q ∈ lw_privs_1, lw_okq q := List.forall_mem_cons.mpr ⟨lw_p0, List.forall_mem_cons.mpr ⟨lw_p1, List.forall_mem_cons.mpr ⟨lw_p2, List.forall_mem_cons.mpr ⟨lw_p3, List.forall_mem_cons.mpr ⟨lw_p4, List.forall_mem_cons.mpr ⟨lw_p5, List.forall_mem_cons.mpr ⟨lw_p6, List.forall_mem_cons.mpr ⟨lw_p7, List.forall_mem_cons.mpr ⟨lw_p8, List.forall_mem_cons.mpr ⟨lw_p9, List.forall_mem_cons.mpr ⟨lw_p10, List.forall_mem_cons.mpr ⟨lw_p11, List.forall_mem_cons.mpr ⟨lw_p12, List.forall_mem_cons.mpr ⟨lw_p13, List.forall_mem_cons.mpr ⟨lw_p14, List.forall_mem_cons.mpr ⟨lw_p15, fun _ h => absurd h List.not_mem_nil⟩⟩⟩⟩⟩⟩⟩⟩⟩⟩⟩⟩⟩⟩⟩⟩
theorem lw_p16 : lw_okq (⟨"OddUmbrellas$Matching", "nextAsk", "()I"⟩, 10) := ⟨⟨by decide +kernel, by decide +kernel⟩, List.mem_of_getElem? (i := 72) (by decide +kernel), List.mem_of_getElem? (i := 470) (by decide +kernel), List.mem_of_getElem? (i := 471) (by decide +kernel)⟩
theorem lw_p17 : lw_okq (⟨"OddUmbrellas$Matching", "nextPairOf", "(I)I"⟩, 10) := ⟨⟨by decide +kernel, by decide +kernel⟩, List.mem_of_getElem? (i := 72) (by decide +kernel), List.mem_of_getElem? (i := 474) (by decide +kernel), List.mem_of_getElem? (i := 475) (by decide +kernel)⟩
theorem lw_p18 : lw_okq (⟨"OddUmbrellas$Matching", "askFor", "(I)V"⟩, 10) := ⟨⟨by decide +kernel, by decide +kernel⟩, List.mem_of_getElem? (i := 72) (by decide +kernel), List.mem_of_getElem? (i := 478) (by decide +kernel), List.mem_of_getElem? (i := 479) (by decide +kernel)⟩
theorem lw_p19 : lw_okq (⟨"OddUmbrellas$Matching", "part", "(II)V"⟩, 10) := ⟨⟨by decide +kernel, by decide +kernel⟩, List.mem_of_getElem? (i := 72) (by decide +kernel), List.mem_of_getElem? (i := 482) (by decide +kernel), List.mem_of_getElem? (i := 483) (by decide +kernel)⟩
theorem lw_p20 : lw_okq (⟨"OddUmbrellas", "tryText", "()V"⟩, 10) := ⟨⟨by decide +kernel, by decide +kernel⟩, List.mem_of_getElem? (i := 15) (by decide +kernel), List.mem_of_getElem? (i := 508) (by decide +kernel), List.mem_of_getElem? (i := 509) (by decide +kernel)⟩
theorem lw_p21 : lw_okq (⟨"OddUmbrellas$Text", "signHere", "()C"⟩, 5) := ⟨⟨by decide +kernel, by decide +kernel⟩, List.mem_of_getElem? (i := 113) (by decide +kernel), List.mem_of_getElem? (i := 516) (by decide +kernel), List.mem_of_getElem? (i := 517) (by decide +kernel)⟩
theorem lw_p22 : lw_okq (⟨"OddUmbrellas$Text", "readWord", "(Ljava/lang/String;)Z"⟩, 5) := ⟨⟨by decide +kernel, by decide +kernel⟩, List.mem_of_getElem? (i := 113) (by decide +kernel), List.mem_of_getElem? (i := 521) (by decide +kernel), List.mem_of_getElem? (i := 522) (by decide +kernel)⟩
theorem lw_p23 : lw_okq (⟨"OddUmbrellas$Text", "readSign", "(C)Z"⟩, 5) := ⟨⟨by decide +kernel, by decide +kernel⟩, List.mem_of_getElem? (i := 113) (by decide +kernel), List.mem_of_getElem? (i := 573) (by decide +kernel), List.mem_of_getElem? (i := 574) (by decide +kernel)⟩
theorem lw_p24 : lw_okq (⟨"OddUmbrellas$Text", "readNumbers", "(IZ)Z"⟩, 5) := ⟨⟨by decide +kernel, by decide +kernel⟩, List.mem_of_getElem? (i := 113) (by decide +kernel), List.mem_of_getElem? (i := 577) (by decide +kernel), List.mem_of_getElem? (i := 578) (by decide +kernel)⟩
theorem lw_p25 : lw_okq (⟨"OddUmbrellas$Text", "digitHere", "()I"⟩, 5) := ⟨⟨by decide +kernel, by decide +kernel⟩, List.mem_of_getElem? (i := 113) (by decide +kernel), List.mem_of_getElem? (i := 581) (by decide +kernel), List.mem_of_getElem? (i := 582) (by decide +kernel)⟩
theorem lw_p26 : lw_okq (⟨"OddUmbrellas$Text", "readNumber", "()I"⟩, 5) := ⟨⟨by decide +kernel, by decide +kernel⟩, List.mem_of_getElem? (i := 113) (by decide +kernel), List.mem_of_getElem? (i := 585) (by decide +kernel), List.mem_of_getElem? (i := 586) (by decide +kernel)⟩
theorem lw_p27 : lw_okq (⟨"OddUmbrellas", "tellFault", "(III)V"⟩, 10) := ⟨⟨by decide +kernel, by decide +kernel⟩, List.mem_of_getElem? (i := 15) (by decide +kernel), List.mem_of_getElem? (i := 593) (by decide +kernel), List.mem_of_getElem? (i := 594) (by decide +kernel)⟩
theorem lw_p28 : lw_okq (⟨"OddUmbrellas", "doOrder", "(LOddUmbrellas$Office;)I"⟩, 10) := ⟨⟨by decide +kernel, by decide +kernel⟩, List.mem_of_getElem? (i := 15) (by decide +kernel), List.mem_of_getElem? (i := 597) (by decide +kernel), List.mem_of_getElem? (i := 598) (by decide +kernel)⟩
theorem lw_p29 : lw_okq (⟨"OddUmbrellasModel", "tried", "()I"⟩, 14) := ⟨⟨by decide +kernel, by decide +kernel⟩, List.mem_of_getElem? (i := 611) (by decide +kernel), List.mem_of_getElem? (i := 664) (by decide +kernel), List.mem_of_getElem? (i := 665) (by decide +kernel)⟩
theorem lw_p30 : lw_okq (⟨"OddUmbrellasModel", "copies", "(II)V"⟩, 14) := ⟨⟨by decide +kernel, by decide +kernel⟩, List.mem_of_getElem? (i := 611) (by decide +kernel), List.mem_of_getElem? (i := 668) (by decide +kernel), List.mem_of_getElem? (i := 669) (by decide +kernel)⟩
theorem lw_p31 : lw_okq (⟨"OddUmbrellasModel", "finds", "(IIIII)I"⟩, 14) := ⟨⟨by decide +kernel, by decide +kernel⟩, List.mem_of_getElem? (i := 611) (by decide +kernel), List.mem_of_getElem? (i := 672) (by decide +kernel), List.mem_of_getElem? (i := 673) (by decide +kernel)⟩
def lw_privs_2 : List (MethodName × Nat) := [(⟨"OddUmbrellas$Matching", "nextAsk", "()I"⟩, 10), (⟨"OddUmbrellas$Matching", "nextPairOf", "(I)I"⟩, 10), (⟨"OddUmbrellas$Matching", "askFor", "(I)V"⟩, 10), (⟨"OddUmbrellas$Matching", "part", "(II)V"⟩, 10), (⟨"OddUmbrellas", "tryText", "()V"⟩, 10), (⟨"OddUmbrellas$Text", "signHere", "()C"⟩, 5), (⟨"OddUmbrellas$Text", "readWord", "(Ljava/lang/String;)Z"⟩, 5), (⟨"OddUmbrellas$Text", "readSign", "(C)Z"⟩, 5), (⟨"OddUmbrellas$Text", "readNumbers", "(IZ)Z"⟩, 5), (⟨"OddUmbrellas$Text", "digitHere", "()I"⟩, 5), (⟨"OddUmbrellas$Text", "readNumber", "()I"⟩, 5), (⟨"OddUmbrellas", "tellFault", "(III)V"⟩, 10), (⟨"OddUmbrellas", "doOrder", "(LOddUmbrellas$Office;)I"⟩, 10), (⟨"OddUmbrellasModel", "tried", "()I"⟩, 14), (⟨"OddUmbrellasModel", "copies", "(II)V"⟩, 14), (⟨"OddUmbrellasModel", "finds", "(IIIII)I"⟩, 14)]
theorem lw_r2 : ∀ q ∈ lw_privs_2, lw_okq q := List.forall_mem_cons.mpr ⟨lw_p16, List.forall_mem_cons.mpr ⟨lw_p17, List.forall_mem_cons.mpr ⟨lw_p18, List.forall_mem_cons.mpr ⟨lw_p19, List.forall_mem_cons.mpr ⟨lw_p20, List.forall_mem_cons.mpr ⟨lw_p21, List.forall_mem_cons.mpr ⟨lw_p22, List.forall_mem_cons.mpr ⟨lw_p23, List.forall_mem_cons.mpr ⟨lw_p24, List.forall_mem_cons.mpr ⟨lw_p25, List.forall_mem_cons.mpr ⟨lw_p26, List.forall_mem_cons.mpr ⟨lw_p27, List.forall_mem_cons.mpr ⟨lw_p28, List.forall_mem_cons.mpr ⟨lw_p29, List.forall_mem_cons.mpr ⟨lw_p30, List.forall_mem_cons.mpr ⟨lw_p31, fun _ h => absurd h List.not_mem_nil⟩⟩⟩⟩⟩⟩⟩⟩⟩⟩⟩⟩⟩⟩⟩⟩
theorem lw_p32 : lw_okq (⟨"OddUmbrellasModel", "lays", "(IIIII)V"⟩, 14) := ⟨⟨by decide +kernel, by decide +kernel⟩, List.mem_of_getElem? (i := 611) (by decide +kernel), List.mem_of_getElem? (i := 687) (by decide +kernel), List.mem_of_getElem? (i := 688) (by decide +kernel)⟩
theorem lw_p33 : lw_okq (⟨"OddUmbrellasModel", "done", "(I)I"⟩, 14) := ⟨⟨by decide +kernel, by decide +kernel⟩, List.mem_of_getElem? (i := 611) (by decide +kernel), List.mem_of_getElem? (i := 691) (by decide +kernel), List.mem_of_getElem? (i := 692) (by decide +kernel)⟩
theorem lw_p34 : lw_okq (⟨"OddUmbrellasModel", "records", "()V"⟩, 14) := ⟨⟨by decide +kernel, by decide +kernel⟩, List.mem_of_getElem? (i := 611) (by decide +kernel), List.mem_of_getElem? (i := 695) (by decide +kernel), List.mem_of_getElem? (i := 696) (by decide +kernel)⟩
theorem lw_p35 : lw_okq (⟨"OddUmbrellasModel", "claims", "(IIIII)I"⟩, 14) := ⟨⟨by decide +kernel, by decide +kernel⟩, List.mem_of_getElem? (i := 611) (by decide +kernel), List.mem_of_getElem? (i := 703) (by decide +kernel), List.mem_of_getElem? (i := 704) (by decide +kernel)⟩
theorem lw_p36 : lw_okq (⟨"OddUmbrellasModel", "tells", "(IIII)I"⟩, 14) := ⟨⟨by decide +kernel, by decide +kernel⟩, List.mem_of_getElem? (i := 611) (by decide +kernel), List.mem_of_getElem? (i := 715) (by decide +kernel), List.mem_of_getElem? (i := 716) (by decide +kernel)⟩
theorem lw_p37 : lw_okq (⟨"OddUmbrellasModel", "isClaim", "(II)Z"⟩, 14) := ⟨⟨by decide +kernel, by decide +kernel⟩, List.mem_of_getElem? (i := 611) (by decide +kernel), List.mem_of_getElem? (i := 719) (by decide +kernel), List.mem_of_getElem? (i := 720) (by decide +kernel)⟩
theorem lw_p38 : lw_okq (⟨"OddUmbrellasModel", "claimGoes", "(II)V"⟩, 14) := ⟨⟨by decide +kernel, by decide +kernel⟩, List.mem_of_getElem? (i := 611) (by decide +kernel), List.mem_of_getElem? (i := 730) (by decide +kernel), List.mem_of_getElem? (i := 731) (by decide +kernel)⟩
theorem lw_p39 : lw_okq (⟨"OddUmbrellasModel", "weeksIn", "(II)I"⟩, 14) := ⟨⟨by decide +kernel, by decide +kernel⟩, List.mem_of_getElem? (i := 611) (by decide +kernel), List.mem_of_getElem? (i := 738) (by decide +kernel), List.mem_of_getElem? (i := 739) (by decide +kernel)⟩
theorem lw_p40 : lw_okq (⟨"OddUmbrellasModel", "goBy", "(II)I"⟩, 14) := ⟨⟨by decide +kernel, by decide +kernel⟩, List.mem_of_getElem? (i := 611) (by decide +kernel), List.mem_of_getElem? (i := 742) (by decide +kernel), List.mem_of_getElem? (i := 743) (by decide +kernel)⟩
theorem lw_p41 : lw_okq (⟨"OddUmbrellasModel", "sells", "(I)V"⟩, 14) := ⟨⟨by decide +kernel, by decide +kernel⟩, List.mem_of_getElem? (i := 611) (by decide +kernel), List.mem_of_getElem? (i := 746) (by decide +kernel), List.mem_of_getElem? (i := 747) (by decide +kernel)⟩
theorem lw_p42 : lw_okq (⟨"OddUmbrellasModel", "writes", "(IIII)V"⟩, 14) := ⟨⟨by decide +kernel, by decide +kernel⟩, List.mem_of_getElem? (i := 611) (by decide +kernel), List.mem_of_getElem? (i := 750) (by decide +kernel), List.mem_of_getElem? (i := 751) (by decide +kernel)⟩
theorem lw_p43 : lw_okq (⟨"OddUmbrellasModel", "umbrellaGoes", "(II)V"⟩, 14) := ⟨⟨by decide +kernel, by decide +kernel⟩, List.mem_of_getElem? (i := 611) (by decide +kernel), List.mem_of_getElem? (i := 754) (by decide +kernel), List.mem_of_getElem? (i := 755) (by decide +kernel)⟩
theorem lw_p44 : lw_okq (⟨"OddUmbrellasModel", "lapses", "(I)V"⟩, 14) := ⟨⟨by decide +kernel, by decide +kernel⟩, List.mem_of_getElem? (i := 611) (by decide +kernel), List.mem_of_getElem? (i := 758) (by decide +kernel), List.mem_of_getElem? (i := 759) (by decide +kernel)⟩
theorem lw_p45 : lw_okq (⟨"OddUmbrellasModel", "handsOut", "(I)I"⟩, 14) := ⟨⟨by decide +kernel, by decide +kernel⟩, List.mem_of_getElem? (i := 611) (by decide +kernel), List.mem_of_getElem? (i := 766) (by decide +kernel), List.mem_of_getElem? (i := 767) (by decide +kernel)⟩
theorem lw_p46 : lw_okq (⟨"OddUmbrellasModel", "matches", "(I)I"⟩, 14) := ⟨⟨by decide +kernel, by decide +kernel⟩, List.mem_of_getElem? (i := 611) (by decide +kernel), List.mem_of_getElem? (i := 770) (by decide +kernel), List.mem_of_getElem? (i := 771) (by decide +kernel)⟩
theorem lw_p47 : lw_okq (⟨"OddUmbrellasModel", "clears", "(I)V"⟩, 14) := ⟨⟨by decide +kernel, by decide +kernel⟩, List.mem_of_getElem? (i := 611) (by decide +kernel), List.mem_of_getElem? (i := 774) (by decide +kernel), List.mem_of_getElem? (i := 775) (by decide +kernel)⟩
def lw_privs_3 : List (MethodName × Nat) := [(⟨"OddUmbrellasModel", "lays", "(IIIII)V"⟩, 14), (⟨"OddUmbrellasModel", "done", "(I)I"⟩, 14), (⟨"OddUmbrellasModel", "records", "()V"⟩, 14), (⟨"OddUmbrellasModel", "claims", "(IIIII)I"⟩, 14), (⟨"OddUmbrellasModel", "tells", "(IIII)I"⟩, 14), (⟨"OddUmbrellasModel", "isClaim", "(II)Z"⟩, 14), (⟨"OddUmbrellasModel", "claimGoes", "(II)V"⟩, 14), (⟨"OddUmbrellasModel", "weeksIn", "(II)I"⟩, 14), (⟨"OddUmbrellasModel", "goBy", "(II)I"⟩, 14), (⟨"OddUmbrellasModel", "sells", "(I)V"⟩, 14), (⟨"OddUmbrellasModel", "writes", "(IIII)V"⟩, 14), (⟨"OddUmbrellasModel", "umbrellaGoes", "(II)V"⟩, 14), (⟨"OddUmbrellasModel", "lapses", "(I)V"⟩, 14), (⟨"OddUmbrellasModel", "handsOut", "(I)I"⟩, 14), (⟨"OddUmbrellasModel", "matches", "(I)I"⟩, 14), (⟨"OddUmbrellasModel", "clears", "(I)V"⟩, 14)]
theorem lw_r3 : ∀ q ∈ lw_privs_3, lw_okq q := List.forall_mem_cons.mpr ⟨lw_p32, List.forall_mem_cons.mpr ⟨lw_p33, List.forall_mem_cons.mpr ⟨lw_p34, List.forall_mem_cons.mpr ⟨lw_p35, List.forall_mem_cons.mpr ⟨lw_p36, List.forall_mem_cons.mpr ⟨lw_p37, List.forall_mem_cons.mpr ⟨lw_p38, List.forall_mem_cons.mpr ⟨lw_p39, List.forall_mem_cons.mpr ⟨lw_p40, List.forall_mem_cons.mpr ⟨lw_p41, List.forall_mem_cons.mpr ⟨lw_p42, List.forall_mem_cons.mpr ⟨lw_p43, List.forall_mem_cons.mpr ⟨lw_p44, List.forall_mem_cons.mpr ⟨lw_p45, List.forall_mem_cons.mpr ⟨lw_p46, List.forall_mem_cons.mpr ⟨lw_p47, fun _ h => absurd h List.not_mem_nil⟩⟩⟩⟩⟩⟩⟩⟩⟩⟩⟩⟩⟩⟩⟩⟩
theorem lw_p48 : lw_okq (⟨"OddUmbrellasModel", "suits", "(III)Z"⟩, 14) := ⟨⟨by decide +kernel, by decide +kernel⟩, List.mem_of_getElem? (i := 611) (by decide +kernel), List.mem_of_getElem? (i := 778) (by decide +kernel), List.mem_of_getElem? (i := 779) (by decide +kernel)⟩
theorem lw_p49 : lw_okq (⟨"OddUmbrellasModel", "misses", "(III)I"⟩, 14) := ⟨⟨by decide +kernel, by decide +kernel⟩, List.mem_of_getElem? (i := 611) (by decide +kernel), List.mem_of_getElem? (i := 782) (by decide +kernel), List.mem_of_getElem? (i := 783) (by decide +kernel)⟩
theorem lw_p50 : lw_okq (⟨"OddUmbrellasModel", "pointsOf", "(III)I"⟩, 14) := ⟨⟨by decide +kernel, by decide +kernel⟩, List.mem_of_getElem? (i := 611) (by decide +kernel), List.mem_of_getElem? (i := 786) (by decide +kernel), List.mem_of_getElem? (i := 787) (by decide +kernel)⟩
theorem lw_p51 : lw_okq (⟨"OddUmbrellasModel", "many", "(III)I"⟩, 14) := ⟨⟨by decide +kernel, by decide +kernel⟩, List.mem_of_getElem? (i := 611) (by decide +kernel), List.mem_of_getElem? (i := 790) (by decide +kernel), List.mem_of_getElem? (i := 791) (by decide +kernel)⟩
theorem lw_p52 : lw_okq (⟨"OddUmbrellasModel", "isUmbrella", "(I)Z"⟩, 14) := ⟨⟨by decide +kernel, by decide +kernel⟩, List.mem_of_getElem? (i := 611) (by decide +kernel), List.mem_of_getElem? (i := 805) (by decide +kernel), List.mem_of_getElem? (i := 806) (by decide +kernel)⟩
theorem lw_p53 : lw_okq (⟨"OddUmbrellasModel", "mateOf", "(IZ)I"⟩, 14) := ⟨⟨by decide +kernel, by decide +kernel⟩, List.mem_of_getElem? (i := 611) (by decide +kernel), List.mem_of_getElem? (i := 809) (by decide +kernel), List.mem_of_getElem? (i := 810) (by decide +kernel)⟩
theorem lw_p54 : lw_okq (⟨"OddUmbrellasModel", "suiting", "(II)I"⟩, 14) := ⟨⟨by decide +kernel, by decide +kernel⟩, List.mem_of_getElem? (i := 611) (by decide +kernel), List.mem_of_getElem? (i := 814) (by decide +kernel), List.mem_of_getElem? (i := 815) (by decide +kernel)⟩
theorem lw_p55 : lw_okq (⟨"OddUmbrellasModel", "oddness", "(I)I"⟩, 14) := ⟨⟨by decide +kernel, by decide +kernel⟩, List.mem_of_getElem? (i := 611) (by decide +kernel), List.mem_of_getElem? (i := 818) (by decide +kernel), List.mem_of_getElem? (i := 819) (by decide +kernel)⟩
theorem lw_p56 : lw_okq (⟨"OddUmbrellasModel", "matchOf", "(II)I"⟩, 14) := ⟨⟨by decide +kernel, by decide +kernel⟩, List.mem_of_getElem? (i := 611) (by decide +kernel), List.mem_of_getElem? (i := 826) (by decide +kernel), List.mem_of_getElem? (i := 827) (by decide +kernel)⟩
theorem lw_p57 : lw_okq (⟨"OddUmbrellasModel", "byAsking", "(I)I"⟩, 14) := ⟨⟨by decide +kernel, by decide +kernel⟩, List.mem_of_getElem? (i := 611) (by decide +kernel), List.mem_of_getElem? (i := 876) (by decide +kernel), List.mem_of_getElem? (i := 877) (by decide +kernel)⟩
theorem lw_p58 : lw_okq (⟨"OddUmbrellasModel", "asksOn", "(I)I"⟩, 14) := ⟨⟨by decide +kernel, by decide +kernel⟩, List.mem_of_getElem? (i := 611) (by decide +kernel), List.mem_of_getElem? (i := 880) (by decide +kernel), List.mem_of_getElem? (i := 881) (by decide +kernel)⟩
theorem lw_p59 : lw_okq (⟨"OddUmbrellasModel", "asks", "(I)I"⟩, 14) := ⟨⟨by decide +kernel, by decide +kernel⟩, List.mem_of_getElem? (i := 611) (by decide +kernel), List.mem_of_getElem? (i := 884) (by decide +kernel), List.mem_of_getElem? (i := 885) (by decide +kernel)⟩
theorem lw_p60 : lw_okq (⟨"OddUmbrellasModel", "looks", "()I"⟩, 14) := ⟨⟨by decide +kernel, by decide +kernel⟩, List.mem_of_getElem? (i := 611) (by decide +kernel), List.mem_of_getElem? (i := 904) (by decide +kernel), List.mem_of_getElem? (i := 905) (by decide +kernel)⟩
theorem lw_p61 : lw_okq (⟨"OddUmbrellasModel", "readsOrder", "()Z"⟩, 14) := ⟨⟨by decide +kernel, by decide +kernel⟩, List.mem_of_getElem? (i := 611) (by decide +kernel), List.mem_of_getElem? (i := 908) (by decide +kernel), List.mem_of_getElem? (i := 909) (by decide +kernel)⟩
theorem lw_p62 : lw_okq (⟨"OddUmbrellasModel", "takesWord", "(J)Z"⟩, 14) := ⟨⟨by decide +kernel, by decide +kernel⟩, List.mem_of_getElem? (i := 611) (by decide +kernel), List.mem_of_getElem? (i := 913) (by decide +kernel), List.mem_of_getElem? (i := 914) (by decide +kernel)⟩
theorem lw_p63 : lw_okq (⟨"OddUmbrellasModel", "takes", "(I)Z"⟩, 14) := ⟨⟨by decide +kernel, by decide +kernel⟩, List.mem_of_getElem? (i := 611) (by decide +kernel), List.mem_of_getElem? (i := 918) (by decide +kernel), List.mem_of_getElem? (i := 919) (by decide +kernel)⟩
def lw_privs_4 : List (MethodName × Nat) := [(⟨"OddUmbrellasModel", "suits", "(III)Z"⟩, 14), (⟨"OddUmbrellasModel", "misses", "(III)I"⟩, 14), (⟨"OddUmbrellasModel", "pointsOf", "(III)I"⟩, 14), (⟨"OddUmbrellasModel", "many", "(III)I"⟩, 14), (⟨"OddUmbrellasModel", "isUmbrella", "(I)Z"⟩, 14), (⟨"OddUmbrellasModel", "mateOf", "(IZ)I"⟩, 14), (⟨"OddUmbrellasModel", "suiting", "(II)I"⟩, 14), (⟨"OddUmbrellasModel", "oddness", "(I)I"⟩, 14), (⟨"OddUmbrellasModel", "matchOf", "(II)I"⟩, 14), (⟨"OddUmbrellasModel", "byAsking", "(I)I"⟩, 14), (⟨"OddUmbrellasModel", "asksOn", "(I)I"⟩, 14), (⟨"OddUmbrellasModel", "asks", "(I)I"⟩, 14), (⟨"OddUmbrellasModel", "looks", "()I"⟩, 14), (⟨"OddUmbrellasModel", "readsOrder", "()Z"⟩, 14), (⟨"OddUmbrellasModel", "takesWord", "(J)Z"⟩, 14), (⟨"OddUmbrellasModel", "takes", "(I)Z"⟩, 14)]
theorem lw_r4 : ∀ q ∈ lw_privs_4, lw_okq q := List.forall_mem_cons.mpr ⟨lw_p48, List.forall_mem_cons.mpr ⟨lw_p49, List.forall_mem_cons.mpr ⟨lw_p50, List.forall_mem_cons.mpr ⟨lw_p51, List.forall_mem_cons.mpr ⟨lw_p52, List.forall_mem_cons.mpr ⟨lw_p53, List.forall_mem_cons.mpr ⟨lw_p54, List.forall_mem_cons.mpr ⟨lw_p55, List.forall_mem_cons.mpr ⟨lw_p56, List.forall_mem_cons.mpr ⟨lw_p57, List.forall_mem_cons.mpr ⟨lw_p58, List.forall_mem_cons.mpr ⟨lw_p59, List.forall_mem_cons.mpr ⟨lw_p60, List.forall_mem_cons.mpr ⟨lw_p61, List.forall_mem_cons.mpr ⟨lw_p62, List.forall_mem_cons.mpr ⟨lw_p63, fun _ h => absurd h List.not_mem_nil⟩⟩⟩⟩⟩⟩⟩⟩⟩⟩⟩⟩⟩⟩⟩⟩
theorem lw_p64 : lw_okq (⟨"OddUmbrellasModel", "readsRow", "(IZ)Z"⟩, 14) := ⟨⟨by decide +kernel, by decide +kernel⟩, List.mem_of_getElem? (i := 611) (by decide +kernel), List.mem_of_getElem? (i := 922) (by decide +kernel), List.mem_of_getElem? (i := 923) (by decide +kernel)⟩
theorem lw_p65 : lw_okq (⟨"OddUmbrellasModel", "readsValue", "(IZ)Z"⟩, 14) := ⟨⟨by decide +kernel, by decide +kernel⟩, List.mem_of_getElem? (i := 611) (by decide +kernel), List.mem_of_getElem? (i := 926) (by decide +kernel), List.mem_of_getElem? (i := 927) (by decide +kernel)⟩
theorem lw_p66 : lw_okq (⟨"OddUmbrellasModel", "readsNumber", "(I)Z"⟩, 14) := ⟨⟨by decide +kernel, by decide +kernel⟩, List.mem_of_getElem? (i := 611) (by decide +kernel), List.mem_of_getElem? (i := 930) (by decide +kernel), List.mem_of_getElem? (i := 931) (by decide +kernel)⟩
theorem lw_p67 : lw_okq (⟨"OddUmbrellasModel", "isDigit", "()Z"⟩, 14) := ⟨⟨by decide +kernel, by decide +kernel⟩, List.mem_of_getElem? (i := 611) (by decide +kernel), List.mem_of_getElem? (i := 934) (by decide +kernel), List.mem_of_getElem? (i := 935) (by decide +kernel)⟩
theorem lw_p68 : lw_okq (⟨"OddUmbrellasModel", "does", "(I)I"⟩, 14) := ⟨⟨by decide +kernel, by decide +kernel⟩, List.mem_of_getElem? (i := 611) (by decide +kernel), List.mem_of_getElem? (i := 942) (by decide +kernel), List.mem_of_getElem? (i := 943) (by decide +kernel)⟩
def lw_privs_5 : List (MethodName × Nat) := [(⟨"OddUmbrellasModel", "readsRow", "(IZ)Z"⟩, 14), (⟨"OddUmbrellasModel", "readsValue", "(IZ)Z"⟩, 14), (⟨"OddUmbrellasModel", "readsNumber", "(I)Z"⟩, 14), (⟨"OddUmbrellasModel", "isDigit", "()Z"⟩, 14), (⟨"OddUmbrellasModel", "does", "(I)I"⟩, 14)]
theorem lw_r5 : ∀ q ∈ lw_privs_5, lw_okq q := List.forall_mem_cons.mpr ⟨lw_p64, List.forall_mem_cons.mpr ⟨lw_p65, List.forall_mem_cons.mpr ⟨lw_p66, List.forall_mem_cons.mpr ⟨lw_p67, List.forall_mem_cons.mpr ⟨lw_p68, fun _ h => absurd h List.not_mem_nil⟩⟩⟩⟩⟩
def lw_privs : List (MethodName × Nat) := lw_privs_1 ++ (lw_privs_2 ++ (lw_privs_3 ++ (lw_privs_4 ++ (lw_privs_5))))
def lw_tbl : List Cond := k2_sels lw_privs ++ tables_1
theorem lw_privs_ok : ∀ q ∈ lw_privs, lw_okq q := by
  show ∀ q ∈ lw_privs_1 ++ (lw_privs_2 ++ (lw_privs_3 ++ (lw_privs_4 ++ (lw_privs_5)))), lw_okq q
  exact List.forall_mem_append.mpr ⟨lw_r1, List.forall_mem_append.mpr ⟨lw_r2, List.forall_mem_append.mpr ⟨lw_r3, List.forall_mem_append.mpr ⟨lw_r4, lw_r5⟩⟩⟩⟩
/-- the streams that the claim lets the run draw from -/
abbrev lw_cs : List Choice := [Jvm.Choice.named "NaN.bits"]
theorem lw_bits : nanBits ∈ lw_cs := by first | decide | exact List.mem_cons_self | simp [lw_cs, nanBits]

def RX0 : String := "OddUmbrellas$Matching"
def TX0 : u_T := fun k => match k with
  | 0 => ("OddUmbrellas$Matching", "misses", "[I", true)
  | 1 => ("OddUmbrellas$Matching", "worth", "[I", true)
  | 2 => ("OddUmbrellas$Matching", "suiting", "[Z", true)
  | 3 => ("OddUmbrellas$Matching", "asked", "[Z", true)
  | 4 => ("OddUmbrellas$Matching", "oddness", "[I", true)
  | 5 => ("OddUmbrellas$Matching", "claimOfUmbrella", "[I", true)
  | 6 => ("OddUmbrellas$Matching", "umbrellaOfClaim", "[I", true)
  | 7 => ("OddUmbrellas$Matching", "umbrellas", "I", false)
  | 8 => ("OddUmbrellas$Matching", "claims", "I", false)
  | _ => ("OddUmbrellas$Matching", "pairs", "I", false)
def tyX0 : Nat → FieldType := fun k => match k with
  | 0 => .array .int
  | 1 => .array .int
  | 2 => .array .boolean
  | 3 => .array .boolean
  | 4 => .array .int
  | 5 => .array .int
  | 6 => .array .int
  | 7 => .int
  | 8 => .int
  | _ => .int
abbrev wsX00 : List Cond := u_ws RX0 TX0 10
theorem nmX0 : ∀ a, a < 10 → ∀ b, b < 10 → a ≠ b → (TX0 a).2.1 ≠ (TX0 b).2.1 := by decide +kernel
theorem tyX0_ok : ∀ k, k < 10 → parseFieldDescriptor (TX0 k).2.2.1 = some (tyX0 k) := by decide +kernel
abbrev cX0_init : ByteArray := prog_2_method_1_code
def yX0_init : MethodName := ⟨RX0, "<init>", "()V"⟩
abbrev cX0_weighAll : ByteArray := prog_2_method_2_code
def yX0_weighAll : MethodName := ⟨RX0, "weighAll", "(LOddUmbrellas$Office;)V"⟩
abbrev cX0_noteOddness : ByteArray := prog_2_method_3_code
def yX0_noteOddness : MethodName := ⟨RX0, "noteOddness", "(LOddUmbrellas$Office;)V"⟩
abbrev cX0_weigh : ByteArray := prog_2_method_4_code
def yX0_weigh : MethodName := ⟨RX0, "weigh", "(IILOddUmbrellas$Office;)V"⟩
abbrev cX0_pairOf : ByteArray := prog_2_method_5_code
def yX0_pairOf : MethodName := ⟨RX0, "pairOf", "(II)I"⟩
abbrev cX0_worthOf : ByteArray := prog_2_method_6_code
def yX0_worthOf : MethodName := ⟨RX0, "worthOf", "(II)I"⟩
abbrev cX0_suits : ByteArray := prog_2_method_7_code
def yX0_suits : MethodName := ⟨RX0, "suits", "(II)Z"⟩
abbrev cX0_claimsSuiting : ByteArray := prog_2_method_8_code
def yX0_claimsSuiting : MethodName := ⟨RX0, "claimsSuiting", "(I)I"⟩
abbrev cX0_umbrellasSuiting : ByteArray := prog_2_method_9_code
def yX0_umbrellasSuiting : MethodName := ⟨RX0, "umbrellasSuiting", "(I)I"⟩
abbrev cX0_matchAll : ByteArray := prog_2_method_10_code
def yX0_matchAll : MethodName := ⟨RX0, "matchAll", "(LOddUmbrellas$Office;)V"⟩
abbrev cX0_matchNone : ByteArray := prog_2_method_11_code
def yX0_matchNone : MethodName := ⟨RX0, "matchNone", "()V"⟩
abbrev cX0_bestFreePair : ByteArray := prog_2_method_12_code
def yX0_bestFreePair : MethodName := ⟨RX0, "bestFreePair", "()I"⟩
abbrev cX0_aheadOf : ByteArray := prog_2_method_13_code
def yX0_aheadOf : MethodName := ⟨RX0, "aheadOf", "(II)I"⟩
abbrev cX0_join : ByteArray := prog_2_method_14_code
def yX0_join : MethodName := ⟨RX0, "join", "(II)V"⟩
abbrev cX0_part : ByteArray := prog_2_method_15_code
def yX0_part : MethodName := ⟨RX0, "part", "(II)V"⟩
abbrev cX0_claimMatched : ByteArray := prog_2_method_16_code
def yX0_claimMatched : MethodName := ⟨RX0, "claimMatched", "(I)I"⟩
abbrev cX0_umbrellaMatched : ByteArray := prog_2_method_17_code
def yX0_umbrellaMatched : MethodName := ⟨RX0, "umbrellaMatched", "(I)I"⟩
abbrev cX0_worthOfMatched : ByteArray := prog_2_method_18_code
def yX0_worthOfMatched : MethodName := ⟨RX0, "worthOfMatched", "()I"⟩
abbrev cX0_reasonAgainst : ByteArray := prog_2_method_19_code
def yX0_reasonAgainst : MethodName := ⟨RX0, "reasonAgainst", "(IILOddUmbrellas$Office;)I"⟩
abbrev cX0_matchByAsking : ByteArray := prog_2_method_20_code
def yX0_matchByAsking : MethodName := ⟨RX0, "matchByAsking", "(LOddUmbrellas$Office;)V"⟩
abbrev cX0_nextAsk : ByteArray := prog_2_method_21_code
def yX0_nextAsk : MethodName := ⟨RX0, "nextAsk", "()I"⟩
abbrev cX0_nextPairOf : ByteArray := prog_2_method_22_code
def yX0_nextPairOf : MethodName := ⟨RX0, "nextPairOf", "(I)I"⟩
abbrev cX0_askFor : ByteArray := prog_2_method_23_code
def yX0_askFor : MethodName := ⟨RX0, "askFor", "(I)V"⟩
def RX1 : String := "OddUmbrellas$Office"
def TX1 : u_T := fun k => match k with
  | 0 => ("OddUmbrellas$Office", "umbrellas", "LOddUmbrellas$Rows;", true)
  | 1 => ("OddUmbrellas$Office", "claims", "LOddUmbrellas$Rows;", true)
  | 2 => ("OddUmbrellas$Office", "entries", "LOddUmbrellas$Rows;", true)
  | 3 => ("OddUmbrellas$Office", "settings", "[I", true)
  | _ => ("OddUmbrellas$Office", "sums", "[I", true)
def tyX1 : Nat → FieldType := fun k => match k with
  | 0 => .object "OddUmbrellas$Rows"
  | 1 => .object "OddUmbrellas$Rows"
  | 2 => .object "OddUmbrellas$Rows"
  | 3 => .array .int
  | _ => .array .int
abbrev wsX10 : List Cond := u_ws RX1 TX1 5
theorem nmX1 : ∀ a, a < 5 → ∀ b, b < 5 → a ≠ b → (TX1 a).2.1 ≠ (TX1 b).2.1 := by decide +kernel
theorem tyX1_ok : ∀ k, k < 5 → parseFieldDescriptor (TX1 k).2.2.1 = some (tyX1 k) := by decide +kernel
abbrev cX1_init : ByteArray := prog_3_method_1_code
def yX1_init : MethodName := ⟨RX1, "<init>", "()V"⟩
abbrev cX1_become : ByteArray := prog_3_method_2_code
def yX1_become : MethodName := ⟨RX1, "become", "(LOddUmbrellas$Office;)V"⟩
abbrev cX1_setting : ByteArray := prog_3_method_3_code
def yX1_setting : MethodName := ⟨RX1, "setting", "(I)I"⟩
abbrev cX1_sum : ByteArray := prog_3_method_4_code
def yX1_sum : MethodName := ⟨RX1, "sum", "(I)I"⟩
abbrev cX1_addTo : ByteArray := prog_3_method_5_code
def yX1_addTo : MethodName := ⟨RX1, "addTo", "(II)V"⟩
abbrev cX1_umbrellasWith : ByteArray := prog_3_method_6_code
def yX1_umbrellasWith : MethodName := ⟨RX1, "umbrellasWith", "(II)I"⟩
abbrev cX1_oddnessTogether : ByteArray := prog_3_method_7_code
def yX1_oddnessTogether : MethodName := ⟨RX1, "oddnessTogether", "(I)I"⟩
abbrev cX1_takeUmbrella : ByteArray := prog_3_method_8_code
def yX1_takeUmbrella : MethodName := ⟨RX1, "takeUmbrella", "(IIII)I"⟩
abbrev cX1_takeClaim : ByteArray := prog_3_method_9_code
def yX1_takeClaim : MethodName := ⟨RX1, "takeClaim", "(IIII)I"⟩
abbrev cX1_noteDetail : ByteArray := prog_3_method_10_code
def yX1_noteDetail : MethodName := ⟨RX1, "noteDetail", "(III)I"⟩
abbrev cX1_dropClaim : ByteArray := prog_3_method_11_code
def yX1_dropClaim : MethodName := ⟨RX1, "dropClaim", "(I)I"⟩
abbrev cX1_changeSetting : ByteArray := prog_3_method_12_code
def yX1_changeSetting : MethodName := ⟨RX1, "changeSetting", "(II)I"⟩
abbrev cX1_passWeeks : ByteArray := prog_3_method_13_code
def yX1_passWeeks : MethodName := ⟨RX1, "passWeeks", "(II)I"⟩
abbrev cX1_growOlder : ByteArray := prog_3_method_14_code
def yX1_growOlder : MethodName := ⟨RX1, "growOlder", "(LOddUmbrellas$Rows;)V"⟩
abbrev cX1_endOld : ByteArray := prog_3_method_15_code
def yX1_endOld : MethodName := ⟨RX1, "endOld", "(LOddUmbrellas$Rows;III)V"⟩
abbrev cX1_handOut : ByteArray := prog_3_method_16_code
def yX1_handOut : MethodName := ⟨RX1, "handOut", "(LOddUmbrellas$Matching;)I"⟩
abbrev cX1_enter : ByteArray := prog_3_method_17_code
def yX1_enter : MethodName := ⟨RX1, "enter", "(III)V"⟩
def RX2 : String := "OddUmbrellas$Rows"
def TX2 : u_T := fun k => match k with
  | 0 => ("OddUmbrellas$Rows", "cells", "[I", true)
  | _ => ("OddUmbrellas$Rows", "size", "I", false)
def tyX2 : Nat → FieldType := fun k => match k with
  | 0 => .array .int
  | _ => .int
abbrev wsX20 : List Cond := u_ws RX2 TX2 2
theorem nmX2 : ∀ a, a < 2 → ∀ b, b < 2 → a ≠ b → (TX2 a).2.1 ≠ (TX2 b).2.1 := by decide +kernel
theorem tyX2_ok : ∀ k, k < 2 → parseFieldDescriptor (TX2 k).2.2.1 = some (tyX2 k) := by decide +kernel
abbrev cX2_init : ByteArray := prog_4_method_1_code
def yX2_init : MethodName := ⟨RX2, "<init>", "()V"⟩
abbrev cX2_has : ByteArray := prog_4_method_2_code
def yX2_has : MethodName := ⟨RX2, "has", "(I)Z"⟩
abbrev cX2_cell : ByteArray := prog_4_method_3_code
def yX2_cell : MethodName := ⟨RX2, "cell", "(II)I"⟩
abbrev cX2_put : ByteArray := prog_4_method_4_code
def yX2_put : MethodName := ⟨RX2, "put", "(III)V"⟩
abbrev cX2_append : ByteArray := prog_4_method_5_code
def yX2_append : MethodName := ⟨RX2, "append", "(IIII)I"⟩
abbrev cX2_remove : ByteArray := prog_4_method_6_code
def yX2_remove : MethodName := ⟨RX2, "remove", "(I)V"⟩
abbrev cX2_become : ByteArray := prog_4_method_7_code
def yX2_become : MethodName := ⟨RX2, "become", "(LOddUmbrellas$Rows;)V"⟩
def RX3 : String := "OddUmbrellas$Text"
def TX3 : u_T := fun k => match k with
  | 0 => ("OddUmbrellas$Text", "signs", "[C", true)
  | 1 => ("OddUmbrellas$Text", "length", "I", false)
  | 2 => ("OddUmbrellas$Text", "place", "I", false)
  | 3 => ("OddUmbrellas$Text", "kind", "I", false)
  | _ => ("OddUmbrellas$Text", "numbers", "[I", true)
def tyX3 : Nat → FieldType := fun k => match k with
  | 0 => .array .char
  | 1 => .int
  | 2 => .int
  | 3 => .int
  | _ => .array .int
abbrev wsX30 : List Cond := u_ws RX3 TX3 5
theorem nmX3 : ∀ a, a < 5 → ∀ b, b < 5 → a ≠ b → (TX3 a).2.1 ≠ (TX3 b).2.1 := by decide +kernel
theorem tyX3_ok : ∀ k, k < 5 → parseFieldDescriptor (TX3 k).2.2.1 = some (tyX3 k) := by decide +kernel
abbrev cX3_init : ByteArray := prog_5_method_1_code
def yX3_init : MethodName := ⟨RX3, "<init>", "()V"⟩
abbrev cX3_append : ByteArray := prog_5_method_2_code
def yX3_append : MethodName := ⟨RX3, "append", "(C)Z"⟩
abbrev cX3_number : ByteArray := prog_5_method_3_code
def yX3_number : MethodName := ⟨RX3, "number", "(I)I"⟩
abbrev cX3_readOrder : ByteArray := prog_5_method_4_code
def yX3_readOrder : MethodName := ⟨RX3, "readOrder", "(I)Z"⟩
abbrev cX3_signHere : ByteArray := prog_5_method_5_code
def yX3_signHere : MethodName := ⟨RX3, "signHere", "()C"⟩
abbrev cX3_readSign : ByteArray := prog_5_method_6_code
def yX3_readSign : MethodName := ⟨RX3, "readSign", "(C)Z"⟩
abbrev cX3_readWord : ByteArray := prog_5_method_7_code
def yX3_readWord : MethodName := ⟨RX3, "readWord", "(Ljava/lang/String;)Z"⟩
abbrev cX3_readNumbers : ByteArray := prog_5_method_8_code
def yX3_readNumbers : MethodName := ⟨RX3, "readNumbers", "(IZ)Z"⟩
abbrev cX3_digitHere : ByteArray := prog_5_method_9_code
def yX3_digitHere : MethodName := ⟨RX3, "digitHere", "()I"⟩
abbrev cX3_readNumber : ByteArray := prog_5_method_10_code
def yX3_readNumber : MethodName := ⟨RX3, "readNumber", "()I"⟩
def RX4 : String := "OddUmbrellas"
def TX4 : u_T := fun k => match k with
  | 0 => ("OddUmbrellas", "office", "LOddUmbrellas$Office;", true)
  | 1 => ("OddUmbrellas", "trial", "LOddUmbrellas$Office;", true)
  | 2 => ("OddUmbrellas", "matching", "LOddUmbrellas$Matching;", true)
  | 3 => ("OddUmbrellas", "history", "[LOddUmbrellas$Office;", true)
  | 4 => ("OddUmbrellas", "states", "I", false)
  | 5 => ("OddUmbrellas", "text", "LOddUmbrellas$Text;", true)
  | 6 => ("OddUmbrellas", "ordersTried", "I", false)
  | 7 => ("OddUmbrellas", "faultPlace", "I", false)
  | 8 => ("OddUmbrellas", "faultReason", "I", false)
  | _ => ("OddUmbrellas", "faultCause", "I", false)
def tyX4 : Nat → FieldType := fun k => match k with
  | 0 => .object "OddUmbrellas$Office"
  | 1 => .object "OddUmbrellas$Office"
  | 2 => .object "OddUmbrellas$Matching"
  | 3 => .array (.object "OddUmbrellas$Office")
  | 4 => .int
  | 5 => .object "OddUmbrellas$Text"
  | 6 => .int
  | 7 => .int
  | 8 => .int
  | _ => .int
abbrev wsX40 : List Cond := u_ws RX4 TX4 10
theorem nmX4 : ∀ a, a < 10 → ∀ b, b < 10 → a ≠ b → (TX4 a).2.1 ≠ (TX4 b).2.1 := by decide +kernel
theorem tyX4_ok : ∀ k, k < 10 → parseFieldDescriptor (TX4 k).2.2.1 = some (tyX4 k) := by decide +kernel
abbrev cX4_init : ByteArray := prog_1_method_1_code
def yX4_init : MethodName := ⟨RX4, "<init>", "()V"⟩
abbrev cX4_find : ByteArray := prog_1_method_2_code
def yX4_find : MethodName := ⟨RX4, "find", "(IIII)I"⟩
abbrev cX4_claim : ByteArray := prog_1_method_3_code
def yX4_claim : MethodName := ⟨RX4, "claim", "(IIII)I"⟩
abbrev cX4_tell : ByteArray := prog_1_method_4_code
def yX4_tell : MethodName := ⟨RX4, "tell", "(III)I"⟩
abbrev cX4_drop : ByteArray := prog_1_method_5_code
def yX4_drop : MethodName := ⟨RX4, "drop", "(I)I"⟩
abbrev cX4_weeks : ByteArray := prog_1_method_6_code
def yX4_weeks : MethodName := ⟨RX4, "weeks", "(I)I"⟩
abbrev cX4_hand : ByteArray := prog_1_method_7_code
def yX4_hand : MethodName := ⟨RX4, "hand", "()I"⟩
abbrev cX4_set : ByteArray := prog_1_method_8_code
def yX4_set : MethodName := ⟨RX4, "set", "(II)I"⟩
abbrev cX4_umbrella : ByteArray := prog_1_method_9_code
def yX4_umbrella : MethodName := ⟨RX4, "umbrella", "(II)I"⟩
abbrev cX4_claimOf : ByteArray := prog_1_method_10_code
def yX4_claimOf : MethodName := ⟨RX4, "claimOf", "(II)I"⟩
abbrev cX4_points : ByteArray := prog_1_method_11_code
def yX4_points : MethodName := ⟨RX4, "points", "(II)I"⟩
abbrev cX4_having : ByteArray := prog_1_method_12_code
def yX4_having : MethodName := ⟨RX4, "having", "(II)I"⟩
abbrev cX4_book : ByteArray := prog_1_method_13_code
def yX4_book : MethodName := ⟨RX4, "book", "(II)I"⟩
abbrev cX4_why : ByteArray := prog_1_method_14_code
def yX4_why : MethodName := ⟨RX4, "why", "(II)I"⟩
abbrev cX4_ifTold : ByteArray := prog_1_method_15_code
def yX4_ifTold : MethodName := ⟨RX4, "ifTold", "(III)I"⟩
abbrev cX4_oddest : ByteArray := prog_1_method_16_code
def yX4_oddest : MethodName := ⟨RX4, "oddest", "()I"⟩
abbrev cX4_ifWeeks : ByteArray := prog_1_method_17_code
def yX4_ifWeeks : MethodName := ⟨RX4, "ifWeeks", "(II)I"⟩
abbrev cX4_mean : ByteArray := prog_1_method_18_code
def yX4_mean : MethodName := ⟨RX4, "mean", "()I"⟩
abbrev cX4_count : ByteArray := prog_1_method_19_code
def yX4_count : MethodName := ⟨RX4, "count", "(I)I"⟩
abbrev cX4_undo : ByteArray := prog_1_method_20_code
def yX4_undo : MethodName := ⟨RX4, "undo", "()I"⟩
abbrev cX4_type : ByteArray := prog_1_method_21_code
def yX4_type : MethodName := ⟨RX4, "type", "(I)I"⟩
abbrev cX4_clearText : ByteArray := prog_1_method_22_code
def yX4_clearText : MethodName := ⟨RX4, "clearText", "()I"⟩
abbrev cX4_fault : ByteArray := prog_1_method_23_code
def yX4_fault : MethodName := ⟨RX4, "fault", "(I)I"⟩
abbrev cX4_play : ByteArray := prog_1_method_24_code
def yX4_play : MethodName := ⟨RX4, "play", "()I"⟩
abbrev cX4_keepState : ByteArray := prog_1_method_25_code
def yX4_keepState : MethodName := ⟨RX4, "keepState", "()V"⟩
abbrev cX4_recorded : ByteArray := prog_1_method_26_code
def yX4_recorded : MethodName := ⟨RX4, "recorded", "(I)I"⟩
abbrev cX4_forgetOldestState : ByteArray := prog_1_method_27_code
def yX4_forgetOldestState : MethodName := ⟨RX4, "forgetOldestState", "()V"⟩
abbrev cX4_tryText : ByteArray := prog_1_method_28_code
def yX4_tryText : MethodName := ⟨RX4, "tryText", "()V"⟩
abbrev cX4_tellFault : ByteArray := prog_1_method_29_code
def yX4_tellFault : MethodName := ⟨RX4, "tellFault", "(III)V"⟩
abbrev cX4_doOrder : ByteArray := prog_1_method_30_code
def yX4_doOrder : MethodName := ⟨RX4, "doOrder", "(LOddUmbrellas$Office;)I"⟩
abbrev cX4_isPair : ByteArray := prog_1_method_31_code
def yX4_isPair : MethodName := ⟨RX4, "isPair", "(II)Z"⟩
abbrev cX4_isDetail : ByteArray := prog_1_method_32_code
def yX4_isDetail : MethodName := ⟨RX4, "isDetail", "(I)Z"⟩
abbrev cX4_isValue : ByteArray := prog_1_method_33_code
def yX4_isValue : MethodName := ⟨RX4, "isValue", "(I)Z"⟩
abbrev cX4_isValueOrNotTold : ByteArray := prog_1_method_34_code
def yX4_isValueOrNotTold : MethodName := ⟨RX4, "isValueOrNotTold", "(I)Z"⟩
abbrev cX4_isWeeksAtOnce : ByteArray := prog_1_method_35_code
def yX4_isWeeksAtOnce : MethodName := ⟨RX4, "isWeeksAtOnce", "(I)Z"⟩
abbrev cX4_orNotFound : ByteArray := prog_1_method_36_code
def yX4_orNotFound : MethodName := ⟨RX4, "orNotFound", "(I)I"⟩
abbrev cX4_numberAt : ByteArray := prog_1_method_37_code
def yX4_numberAt : MethodName := ⟨RX4, "numberAt", "([II)I"⟩
abbrev cX4_bitsOf : ByteArray := prog_1_method_38_code
def yX4_bitsOf : MethodName := ⟨RX4, "bitsOf", "(F)I"⟩
def RX5 : String := "OddUmbrellasModel"
def TX5 : u_T := fun k => match k with
  | 0 => ("OddUmbrellasModel", "s", "[I", true)
  | 1 => ("OddUmbrellasModel", "states", "I", false)
  | 2 => ("OddUmbrellasModel", "text", "[I", true)
  | 3 => ("OddUmbrellasModel", "typed", "I", false)
  | 4 => ("OddUmbrellasModel", "claimFor", "[I", true)
  | 5 => ("OddUmbrellasModel", "umbrellaFor", "[I", true)
  | 6 => ("OddUmbrellasModel", "points", "[I", true)
  | 7 => ("OddUmbrellasModel", "asked", "[I", true)
  | 8 => ("OddUmbrellasModel", "spot", "I", false)
  | 9 => ("OddUmbrellasModel", "letter", "I", false)
  | 10 => ("OddUmbrellasModel", "read", "[I", true)
  | 11 => ("OddUmbrellasModel", "faultAt", "I", false)
  | 12 => ("OddUmbrellasModel", "faultReason", "I", false)
  | _ => ("OddUmbrellasModel", "faultCause", "I", false)
def tyX5 : Nat → FieldType := fun k => match k with
  | 0 => .array .int
  | 1 => .int
  | 2 => .array .int
  | 3 => .int
  | 4 => .array .int
  | 5 => .array .int
  | 6 => .array .int
  | 7 => .array .int
  | 8 => .int
  | 9 => .int
  | 10 => .array .int
  | 11 => .int
  | 12 => .int
  | _ => .int
abbrev wsX50 : List Cond := u_ws RX5 TX5 14
theorem nmX5 : ∀ a, a < 14 → ∀ b, b < 14 → a ≠ b → (TX5 a).2.1 ≠ (TX5 b).2.1 := by decide +kernel
theorem tyX5_ok : ∀ k, k < 14 → parseFieldDescriptor (TX5 k).2.2.1 = some (tyX5 k) := by decide +kernel
abbrev cX5_init : ByteArray := prog_7_method_1_code
def yX5_init : MethodName := ⟨RX5, "<init>", "()V"⟩
abbrev cX5_in : ByteArray := prog_7_method_3_code
def yX5_in : MethodName := ⟨RX5, "in", "(III)Z"⟩
abbrev cX5_copies : ByteArray := prog_7_method_4_code
def yX5_copies : MethodName := ⟨RX5, "copies", "(II)V"⟩
abbrev cX5_records : ByteArray := prog_7_method_5_code
def yX5_records : MethodName := ⟨RX5, "records", "()V"⟩
abbrev cX5_umbrellaAt : ByteArray := prog_7_method_6_code
def yX5_umbrellaAt : MethodName := ⟨RX5, "umbrellaAt", "(II)I"⟩
abbrev cX5_claimAt : ByteArray := prog_7_method_7_code
def yX5_claimAt : MethodName := ⟨RX5, "claimAt", "(II)I"⟩
abbrev cX5_many : ByteArray := prog_7_method_8_code
def yX5_many : MethodName := ⟨RX5, "many", "(III)I"⟩
abbrev cX5_misses : ByteArray := prog_7_method_9_code
def yX5_misses : MethodName := ⟨RX5, "misses", "(III)I"⟩
abbrev cX5_pointsOf : ByteArray := prog_7_method_10_code
def yX5_pointsOf : MethodName := ⟨RX5, "pointsOf", "(III)I"⟩
abbrev cX5_suits : ByteArray := prog_7_method_11_code
def yX5_suits : MethodName := ⟨RX5, "suits", "(III)Z"⟩
abbrev cX5_clears : ByteArray := prog_7_method_12_code
def yX5_clears : MethodName := ⟨RX5, "clears", "(I)V"⟩
abbrev cX5_matches : ByteArray := prog_7_method_13_code
def yX5_matches : MethodName := ⟨RX5, "matches", "(I)I"⟩
abbrev cX5_asks : ByteArray := prog_7_method_14_code
def yX5_asks : MethodName := ⟨RX5, "asks", "(I)I"⟩
abbrev cX5_asksOn : ByteArray := prog_7_method_15_code
def yX5_asksOn : MethodName := ⟨RX5, "asksOn", "(I)I"⟩
abbrev cX5_byAsking : ByteArray := prog_7_method_16_code
def yX5_byAsking : MethodName := ⟨RX5, "byAsking", "(I)I"⟩
abbrev cX5_writes : ByteArray := prog_7_method_17_code
def yX5_writes : MethodName := ⟨RX5, "writes", "(IIII)V"⟩
abbrev cX5_umbrellaGoes : ByteArray := prog_7_method_18_code
def yX5_umbrellaGoes : MethodName := ⟨RX5, "umbrellaGoes", "(II)V"⟩
abbrev cX5_claimGoes : ByteArray := prog_7_method_19_code
def yX5_claimGoes : MethodName := ⟨RX5, "claimGoes", "(II)V"⟩
abbrev cX5_sells : ByteArray := prog_7_method_20_code
def yX5_sells : MethodName := ⟨RX5, "sells", "(I)V"⟩
abbrev cX5_lapses : ByteArray := prog_7_method_21_code
def yX5_lapses : MethodName := ⟨RX5, "lapses", "(I)V"⟩
abbrev cX5_goBy : ByteArray := prog_7_method_22_code
def yX5_goBy : MethodName := ⟨RX5, "goBy", "(II)I"⟩
abbrev cX5_handsOut : ByteArray := prog_7_method_23_code
def yX5_handsOut : MethodName := ⟨RX5, "handsOut", "(I)I"⟩
abbrev cX5_areValues : ByteArray := prog_7_method_24_code
def yX5_areValues : MethodName := ⟨RX5, "areValues", "(IIIII)Z"⟩
abbrev cX5_lays : ByteArray := prog_7_method_25_code
def yX5_lays : MethodName := ⟨RX5, "lays", "(IIIII)V"⟩
abbrev cX5_finds : ByteArray := prog_7_method_26_code
def yX5_finds : MethodName := ⟨RX5, "finds", "(IIIII)I"⟩
abbrev cX5_claims : ByteArray := prog_7_method_27_code
def yX5_claims : MethodName := ⟨RX5, "claims", "(IIIII)I"⟩
abbrev cX5_isClaim : ByteArray := prog_7_method_28_code
def yX5_isClaim : MethodName := ⟨RX5, "isClaim", "(II)Z"⟩
abbrev cX5_isDetail : ByteArray := prog_7_method_29_code
def yX5_isDetail : MethodName := ⟨RX5, "isDetail", "(II)Z"⟩
abbrev cX5_tells : ByteArray := prog_7_method_30_code
def yX5_tells : MethodName := ⟨RX5, "tells", "(IIII)I"⟩
abbrev cX5_weeksIn : ByteArray := prog_7_method_31_code
def yX5_weeksIn : MethodName := ⟨RX5, "weeksIn", "(II)I"⟩
abbrev cX5_done : ByteArray := prog_7_method_32_code
def yX5_done : MethodName := ⟨RX5, "done", "(I)I"⟩
abbrev cX5_tried : ByteArray := prog_7_method_33_code
def yX5_tried : MethodName := ⟨RX5, "tried", "()I"⟩
abbrev cX5_find : ByteArray := prog_7_method_34_code
def yX5_find : MethodName := ⟨RX5, "find", "(IIII)I"⟩
abbrev cX5_claim : ByteArray := prog_7_method_35_code
def yX5_claim : MethodName := ⟨RX5, "claim", "(IIII)I"⟩
abbrev cX5_tell : ByteArray := prog_7_method_36_code
def yX5_tell : MethodName := ⟨RX5, "tell", "(III)I"⟩
abbrev cX5_drop : ByteArray := prog_7_method_37_code
def yX5_drop : MethodName := ⟨RX5, "drop", "(I)I"⟩
abbrev cX5_weeks : ByteArray := prog_7_method_38_code
def yX5_weeks : MethodName := ⟨RX5, "weeks", "(I)I"⟩
abbrev cX5_hand : ByteArray := prog_7_method_39_code
def yX5_hand : MethodName := ⟨RX5, "hand", "()I"⟩
abbrev cX5_isSetting : ByteArray := prog_7_method_40_code
def yX5_isSetting : MethodName := ⟨RX5, "isSetting", "(II)Z"⟩
abbrev cX5_set : ByteArray := prog_7_method_41_code
def yX5_set : MethodName := ⟨RX5, "set", "(II)I"⟩
abbrev cX5_isUmbrella : ByteArray := prog_7_method_42_code
def yX5_isUmbrella : MethodName := ⟨RX5, "isUmbrella", "(I)Z"⟩
abbrev cX5_suiting : ByteArray := prog_7_method_43_code
def yX5_suiting : MethodName := ⟨RX5, "suiting", "(II)I"⟩
abbrev cX5_oddness : ByteArray := prog_7_method_44_code
def yX5_oddness : MethodName := ⟨RX5, "oddness", "(I)I"⟩
abbrev cX5_mateOf : ByteArray := prog_7_method_45_code
def yX5_mateOf : MethodName := ⟨RX5, "mateOf", "(IZ)I"⟩
abbrev cX5_umbrella : ByteArray := prog_7_method_46_code
def yX5_umbrella : MethodName := ⟨RX5, "umbrella", "(II)I"⟩
abbrev cX5_matchOf : ByteArray := prog_7_method_47_code
def yX5_matchOf : MethodName := ⟨RX5, "matchOf", "(II)I"⟩
abbrev cX5_claimOf : ByteArray := prog_7_method_48_code
def yX5_claimOf : MethodName := ⟨RX5, "claimOf", "(II)I"⟩
abbrev cX5_points : ByteArray := prog_7_method_49_code
def yX5_points : MethodName := ⟨RX5, "points", "(II)I"⟩
abbrev cX5_having : ByteArray := prog_7_method_50_code
def yX5_having : MethodName := ⟨RX5, "having", "(II)I"⟩
abbrev cX5_book : ByteArray := prog_7_method_51_code
def yX5_book : MethodName := ⟨RX5, "book", "(II)I"⟩
abbrev cX5_why : ByteArray := prog_7_method_52_code
def yX5_why : MethodName := ⟨RX5, "why", "(II)I"⟩
abbrev cX5_ifTold : ByteArray := prog_7_method_53_code
def yX5_ifTold : MethodName := ⟨RX5, "ifTold", "(III)I"⟩
abbrev cX5_oddest : ByteArray := prog_7_method_54_code
def yX5_oddest : MethodName := ⟨RX5, "oddest", "()I"⟩
abbrev cX5_ifWeeks : ByteArray := prog_7_method_55_code
def yX5_ifWeeks : MethodName := ⟨RX5, "ifWeeks", "(II)I"⟩
abbrev cX5_mean : ByteArray := prog_7_method_56_code
def yX5_mean : MethodName := ⟨RX5, "mean", "()I"⟩
abbrev cX5_count : ByteArray := prog_7_method_57_code
def yX5_count : MethodName := ⟨RX5, "count", "(I)I"⟩
abbrev cX5_undo : ByteArray := prog_7_method_58_code
def yX5_undo : MethodName := ⟨RX5, "undo", "()I"⟩
abbrev cX5_type : ByteArray := prog_7_method_59_code
def yX5_type : MethodName := ⟨RX5, "type", "(I)I"⟩
abbrev cX5_clearText : ByteArray := prog_7_method_60_code
def yX5_clearText : MethodName := ⟨RX5, "clearText", "()I"⟩
abbrev cX5_takes : ByteArray := prog_7_method_61_code
def yX5_takes : MethodName := ⟨RX5, "takes", "(I)Z"⟩
abbrev cX5_takesWord : ByteArray := prog_7_method_62_code
def yX5_takesWord : MethodName := ⟨RX5, "takesWord", "(J)Z"⟩
abbrev cX5_isDigit : ByteArray := prog_7_method_63_code
def yX5_isDigit : MethodName := ⟨RX5, "isDigit", "()Z"⟩
abbrev cX5_readsNumber : ByteArray := prog_7_method_64_code
def yX5_readsNumber : MethodName := ⟨RX5, "readsNumber", "(I)Z"⟩
abbrev cX5_readsValue : ByteArray := prog_7_method_65_code
def yX5_readsValue : MethodName := ⟨RX5, "readsValue", "(IZ)Z"⟩
abbrev cX5_readsRow : ByteArray := prog_7_method_66_code
def yX5_readsRow : MethodName := ⟨RX5, "readsRow", "(IZ)Z"⟩
abbrev cX5_readsOrder : ByteArray := prog_7_method_67_code
def yX5_readsOrder : MethodName := ⟨RX5, "readsOrder", "()Z"⟩
abbrev cX5_does : ByteArray := prog_7_method_68_code
def yX5_does : MethodName := ⟨RX5, "does", "(I)I"⟩
abbrev cX5_looks : ByteArray := prog_7_method_69_code
def yX5_looks : MethodName := ⟨RX5, "looks", "()I"⟩
abbrev cX5_fault : ByteArray := prog_7_method_70_code
def yX5_fault : MethodName := ⟨RX5, "fault", "(I)I"⟩
abbrev cX5_play : ByteArray := prog_7_method_71_code
def yX5_play : MethodName := ⟨RX5, "play", "()I"⟩
def RL : String := "OddUmbrellasLaw"
abbrev vwCl : List vw_C := [(RX0, TX0, 10), (RX1, TX1, 5), (RX2, TX2, 2), (RX3, TX3, 5), (RX4, TX4, 10), (RX5, TX5, 14)]
set_option maxRecDepth 100000 in
theorem inX0 : ∀ w ∈ u_ws RX0 TX0 10, w ∈ lw_tbl := by decide +kernel
set_option maxRecDepth 100000 in
theorem inX1 : ∀ w ∈ u_ws RX1 TX1 5, w ∈ lw_tbl := by decide +kernel
set_option maxRecDepth 100000 in
theorem inX2 : ∀ w ∈ u_ws RX2 TX2 2, w ∈ lw_tbl := by decide +kernel
set_option maxRecDepth 100000 in
theorem inX3 : ∀ w ∈ u_ws RX3 TX3 5, w ∈ lw_tbl := by decide +kernel
set_option maxRecDepth 100000 in
theorem inX4 : ∀ w ∈ u_ws RX4 TX4 10, w ∈ lw_tbl := by decide +kernel
set_option maxRecDepth 100000 in
theorem inX5 : ∀ w ∈ u_ws RX5 TX5 14, w ∈ lw_tbl := by decide +kernel
end
section
/-! the ground: numbers, abstract values, the heap as numbers, the layout of the cells, the judgement Z -/
section Ground
/-- the words that travel into any call, and those of nest mates, which travel beside -/
def lwT : List Cond := lw_tbl.filter goodWord
theorem lwT_of {w : Cond} (i : Nat) (h : lw_tbl[i]? = some w) (hg : goodWord w = true) : w ∈ lwT := List.mem_filter.mpr ⟨List.mem_of_getElem? h, hg⟩
theorem lwT_G : GoodIn lwT lwT := fun w hw => ⟨hw, good_of_word (List.mem_filter.mp hw).2⟩
def lwNest (w : Cond) : Bool := match w with
  | .methodLinkNest .. => true
  | .fieldLinkNest .. => true
  | _ => false
def lwN (s : State) : Prop := ∀ w ∈ lw_tbl, lwNest w = true → va_Nw w s
theorem lwN.warm {s U : State} (hW : s.WarmedH U.vm) (h : lwN s) : lwN U := by
  intro w hw hn
  have h1 := h w hw hn
  cases w with
  | methodLinkNest a i x b => exact h1.warmM hW
  | fieldLinkNest a i b n d x => exact h1.warmF hW
  | _ => cases hn
abbrev AV : Type := Int ⊕ Nat ⊕ Value
abbrev vi (z : Int) : AV := Sum.inl z
abbrev vr (i : Nat) : AV := Sum.inr (Sum.inl i)
abbrev vx (v : Value) : AV := Sum.inr (Sum.inr v)
def mv (ad : Nat → Nat) (v : AV) : Value := match v with
  | .inl z => .int (Int32.ofInt z)
  | .inr (.inl i) => .ref (ad i)
  | .inr (.inr v) => v
def iR (z : Int) : Prop := -2147483648 ≤ z ∧ z < 2147483648
def avR (v : AV) : Prop := match v with
  | .inl z => iR z
  | _ => True
def acat (v : AV) : Nat := match v with
  | .inl _ => 1
  | .inr (.inl _) => 1
  | .inr (.inr v) => v.category
theorem acat_mv (ad : Nat → Nat) (v : AV) : (mv ad v).category = acat v := by
  rcases v with z | i | v <;> rfl
abbrev Hp : Type := Nat → Nat → Int
def hR (h : Hp) : Prop := ∀ i k, iR (h i k)
def hup (h : Hp) (i k : Nat) (x : Int) : Hp := fun a b => if a = i ∧ b = k then x else h a b
def wr (z : Int) : Int := (z + 2147483648) % 4294967296 - 2147483648
theorem wr_R (z : Int) : iR (wr z) := by unfold iR wr; omega
theorem wr_e {z : Int} (h : iR z) : wr z = z := by unfold iR at h; unfold wr; omega
theorem ofI_T {z : Int} (h : iR z) : (Int32.ofInt z).toInt = z := Int32.toInt_ofInt_of_le h.1 h.2
theorem ofI_eq {a b : Int} (h : a % 4294967296 = b % 4294967296) : Int32.ofInt a = Int32.ofInt b := by
  apply Int32.toInt.inj
  rw [Int32.toInt_ofInt, Int32.toInt_ofInt]
  show a.bmod 4294967296 = b.bmod 4294967296
  rw [Int.bmod_def, Int.bmod_def]
  have : ((4294967296 : Nat) : Int) = 4294967296 := rfl
  rw [this, h]
theorem ofI_wr (z : Int) : Int32.ofInt (wr z) = Int32.ofInt z := ofI_eq (by unfold wr; omega)
theorem ofI_le {a b : Int} (ha : iR a) (hb : iR b) : Int32.ofInt a ≤ Int32.ofInt b ↔ a ≤ b := by rw [Int32.le_iff_toInt_le, ofI_T ha, ofI_T hb]
theorem ofI_lt {a b : Int} (ha : iR a) (hb : iR b) : Int32.ofInt a < Int32.ofInt b ↔ a < b := by rw [Int32.lt_iff_toInt_lt, ofI_T ha, ofI_T hb]
theorem ofI_inj {a b : Int} (ha : iR a) (hb : iR b) : Int32.ofInt a = Int32.ofInt b ↔ a = b := by
  constructor
  · intro h
    rw [← ofI_T ha, ← ofI_T hb, h]
  · intro h
    rw [h]
theorem iR_0 : iR 0 := by unfold iR; omega
theorem ofI_0 : Int32.ofInt 0 = 0 := rfl
abbrev inb (x : Int) (n : Nat) : Prop := 0 ≤ x ∧ x < n
theorem ofI_in {x : Int} {n : Nat} (hx : iR x) (h : 0 ≤ x ∧ x < n) : vp_in (Int32.ofInt x) n := vp_in_iff.mpr (by rw [ofI_T hx]; exact h)
theorem ofI_cl {x : Int} (hx : iR x) : (Int32.ofInt x).toNatClampNeg = x.toNat := by
  show (Int32.ofInt x).toInt.toNat = x.toNat
  rw [ofI_T hx]
theorem hR_hup {h : Hp} {i k : Nat} {x : Int} (hh : hR h) (hx : iR x) : hR (hup h i k x) := by
  intro a b
  unfold hup
  split
  · exact hx
  · exact hh a b
/-- the cells in the order in which they come: what each is, and of arrays how long; behind them the statics and the texts -/
def lay : List (Nat × Nat) :=
  [(4, 0)] ++ [(1, 0), (2, 0), (10, 72), (2, 0), (10, 72), (2, 0), (10, 72), (10, 7), (10, 12)] ++ [(1, 0), (2, 0), (10, 72), (2, 0), (10, 72), (2, 0), (10, 72), (10, 7), (10, 12)] ++
  [(0, 0), (10, 144), (10, 144), (11, 144), (11, 144), (10, 40), (10, 12), (10, 12)] ++ [(13, 5)] ++ [(3, 0), (12, 60), (10, 4)] ++
  [(1, 0), (2, 0), (10, 72), (2, 0), (10, 72), (2, 0), (10, 72), (10, 7), (10, 12)] ++ [(1, 0), (2, 0), (10, 72), (2, 0), (10, 72), (2, 0), (10, 72), (10, 7), (10, 12)] ++
  [(1, 0), (2, 0), (10, 72), (2, 0), (10, 72), (2, 0), (10, 72), (10, 7), (10, 12)] ++ [(1, 0), (2, 0), (10, 72), (2, 0), (10, 72), (2, 0), (10, 72), (10, 7), (10, 12)] ++
  [(1, 0), (2, 0), (10, 72), (2, 0), (10, 72), (2, 0), (10, 72), (10, 7), (10, 12)] ++
  [(5, 0), (10, 1330), (10, 60), (10, 12), (10, 12), (10, 144), (10, 12), (10, 4)] ++
  [(30, 7), (30, 7), (30, 7)] ++ [(31, 5), (31, 6), (31, 5), (31, 5), (31, 4)]
def kd (i : Nat) : Nat × Nat := lay.getD i (99, 0)
/-- the places of the references in an object: how far behind it the cell lies that it holds -/
def off (c k : Nat) : Option Nat := match c with
  | 0 => if k < 7 then some (k + 1) else none
  | 1 => [1, 3, 5, 7, 8][k]?
  | 2 => [1][k]?
  | 3 => [some 1, none, none, none, some 2].getD k none
  | 4 => [some 1, some 10, some 19, some 27, none, some 28].getD k none
  | 5 => [some 1, none, some 2, none, some 3, some 4, some 5, some 6, none, none, some 7].getD k none
  | _ => none
/-- the numbers of the static rows -/
def sA (i k : Nat) : Int := match i with
  | 84 => [1, 4, 2, 8, 1, 6, 5].getD k 0
  | 85 => [0, 0, 0, 1, 0, 1, 1].getD k 0
  | 86 => [3, 20, 20, 48, 9, 20, 20].getD k 0
  | _ => 0
def sN (i : Nat) : String := match i with
  | 84 => "FIRST_SETTINGS"
  | 85 => "LEAST_SETTINGS"
  | _ => "GREATEST_SETTINGS"
def sTx (i : Nat) : String := match i with
  | 0 => "find "
  | 1 => "claim "
  | 2 => "tell "
  | 3 => "week "
  | _ => "hand"
def sLen : List Nat := [5, 6, 5, 5, 4]
def sBy : List (List Int32) := [[102, 105, 110, 100, 32], [99, 108, 97, 105, 109, 32], [116, 101, 108, 108, 32], [119, 101, 101, 107, 32], [104, 97, 110, 100]]
def LI (h : Hp) : Prop := (∀ i k o, off (kd i).1 k = some o → h i k = ((i + o : Nat) : Int)) ∧ ∀ i k, 84 ≤ i → i < 87 → h i k = sA i k
theorem kd_lt {i c : Nat} (h : (kd i).1 = c) (hc : c < 20) : i < 84 := by
  subst h
  have key : ∀ i, i < 92 → (kd i).1 < 20 → i < 84 := by decide +kernel
  rcases Nat.lt_or_ge i 92 with h | h
  · exact key i h hc
  · have : kd i = (99, 0) := by
      unfold kd
      rw [List.getD_eq_getElem?_getD, List.getElem?_eq_none (by exact h)]
      rfl
    rw [this] at hc
    exact absurd hc (by decide)
def rfo (ad : Nat → Nat) (z : Int) : Option Nat := if z < 0 then none else some (ad z.toNat)
def vw_N (c : Nat) : Nat := [10, 5, 2, 5, 10, 14].getD c 0
def fvl (c k : Nat) (ad : Nat → Nat) (z : Int) : Value := match off c k with
  | some _ => va_rf (rfo ad z)
  | none => .int (Int32.ofInt z)
def ofl (c : Nat) (ad : Nat → Nat) (f : Nat → Int) : List Value := (List.range (vw_N c)).map (fun k => fvl c k ad (f k))
def wcell (ad : Nat → Nat) (ca : Nat → ClassId) (f : Nat → Int) (i : Nat) : va_E :=
  if (kd i).1 = 13 then .inl (ca 3, (kd i).2, .inr (.inr (.inr (.inr (fun k => rfo ad (f k))))))
  else if 10 ≤ (kd i).1 then .inl (ca ((kd i).1 - 10), (kd i).2, .inl (fun k => Int32.ofInt (f k)))
  else .inr ((kd i).1, ofl (kd i).1 ad f)
def tysOf (ca : Nat → ClassId) : List (ClassId × FieldType) := [(ca 0, .int), (ca 1, .boolean), (ca 2, .char), (ca 3, .object "OddUmbrellas$Office")]
def wsN (N : Nat) (ad : Nat → Nat) (ca : Nat → ClassId) (h : Hp) : va_W := (List.range N).map (fun i => (ad i, wcell ad ca (h i) i))
theorem wsN_get {N : Nat} {ad : Nat → Nat} {ca : Nat → ClassId} {h : Hp} {i : Nat} (hi : i < N) : (wsN N ad ca h)[i]? = some (ad i, wcell ad ca (h i) i) := by
  simp [wsN, hi]
theorem wsN_set {N : Nat} {ad : Nat → Nat} {ca : Nat → ClassId} {h h' : Hp} {i : Nat} (ho : ∀ j, j ≠ i → h' j = h j) {e : va_E} (he : e = wcell ad ca (h' i) i) : (wsN N ad ca h).set i (ad i, e) = wsN N ad ca h' := by
  subst he
  apply List.ext_getElem?
  intro j
  by_cases hj : j < N
  · by_cases hji : j = i
    · subst hji
      rw [List.getElem?_set_self (by simp [wsN, hj]), wsN_get hj]
    · rw [List.getElem?_set_ne (fun q => hji q.symm), wsN_get hj, wsN_get hj, ho j hji]
  · rw [List.getElem?_eq_none (by simp [wsN]; omega), List.getElem?_eq_none (by simp [wsN]; omega)]
/-- the methods: owner, name, bytes, locals, what it returns, its rows, its height -/
abbrev MI : Type := String × MethodName × ByteArray × Nat × Option FieldType × List (Nat × Instr × Nat × Nat) × Nat
def mO (M : MI) : String := M.1
def mY (M : MI) : MethodName := M.2.1
def mC (M : MI) : ByteArray := M.2.2.1
def mN (M : MI) : Nat := M.2.2.2.1
def mR (M : MI) : Option FieldType := M.2.2.2.2.1
def mT (M : MI) : List (Nat × Instr × Nat × Nat) := M.2.2.2.2.2.1
def mD (M : MI) : Nat := M.2.2.2.2.2.2
def pcO (M : MI) (k : Nat) : Nat := ((mT M).getD k (0, .nop, 0, 0)).1
def okJ (i : Instr) (pc t : Int) : Bool := match i with
  | .if_icmp _ o => decide (pc + o = t)
  | .ifCond _ o => decide (pc + o = t)
  | .goto o => decide (pc + o = t)
  | .ifnull o => decide (pc + o = t)
  | .ifnonnull o => decide (pc + o = t)
  | _ => true
def nxJ (i : Instr) : Bool := match i with
  | .goto _ => true
  | .ireturn => true
  | .return_ => true
  | .tableswitch .. => true
  | .lookupswitch .. => true
  | _ => false
def okE (M : MI) (k : Nat) (q : Nat × Instr × Nat × Nat) : Bool := decide (decode (mC M) q.1 = .ok (q.2.1, q.2.2.1)) && okJ q.2.1 (q.1 : Int) (pcO M q.2.2.2 : Int) && (nxJ q.2.1 || decide (pcO M (k + 1) = q.1 + q.2.2.1))
def okM (M : MI) : Bool := (List.range (mT M).length).all (fun k => okE M k ((mT M).getD k (0, .nop, 0, 0)))
theorem okM_at {M : MI} (h : okM M = true) {k pc n t : Nat} {i : Instr} (hk : (mT M)[k]? = some (pc, i, n, t)) : decode (mC M) pc = .ok (i, n) ∧ okJ i pc (pcO M t) = true ∧ (nxJ i = false → pcO M (k + 1) = pc + n) ∧ pcO M k = pc := by
  have hl := (List.getElem?_eq_some_iff.mp hk).1
  have hg : (mT M).getD k (0, .nop, 0, 0) = (pc, i, n, t) := by rw [List.getD_eq_getElem?_getD, hk]; rfl
  have h1 := List.all_eq_true.mp h k (List.mem_range.mpr hl)
  rw [hg] at h1
  unfold okE at h1
  simp only [Bool.and_eq_true, Bool.or_eq_true, decide_eq_true_eq] at h1
  refine ⟨h1.1.1, h1.1.2, fun hn => ?_, ?_⟩
  · rcases h1.2 with h2 | h2
    · rw [hn] at h2; cases h2
    · exact h2
  · show ((mT M).getD k (0, .nop, 0, 0)).1 = pc
    rw [hg]
def wsM (M : MI) : List Cond := Cond.code (mY M) (mC M) (mN M) (mR M) :: lwT
def rmM (M : MI) : Room := { frames := mD M, cells := 0, slots := 0, locals := 27 * mD M }
/-- what stands ready ahead of all: the texts and the static rows -/
def SF (base : Nat) (ad : Nat → Nat) (s : State) : Prop :=
  (∀ i, 84 ≤ i → i < 87 → va_T .int (ad i) 7 (fun k => .int (Int32.ofInt (sA i k))) (fun q => base ≤ q) s s.heap ∧ va_Z "OddUmbrellas" (sN i) "[I" (.ref (ad i)) (fun q => base ≤ q) s s.heap) ∧
  (∃ adV : Nat → Nat, vk_S 5 sLen sBy (fun i => ad (87 + i)) adV (fun q => base ≤ q) s s.heap) ∧
  (vk_R "OddUmbrellas$Text" 37 "find " (ad 87) s ∧ vk_R "OddUmbrellas$Text" 47 "claim " (ad 88) s ∧ vk_R "OddUmbrellas$Text" 50 "tell " (ad 89) s ∧ vk_R "OddUmbrellas$Text" 53 "week " (ad 90) s ∧ vk_R "OddUmbrellas$Text" 56 "hand" (ad 91) s) ∧
  va_Z "java/lang/String" "COMPACT_STRINGS" "Z" (.int 1) (fun q => base ≤ q) s s.heap ∧
  va_Zq "jdk/internal/util/Preconditions" "SIOOBE_FORMATTER" "Ljava/util/function/BiFunction;" (fun q => base ≤ q) s s.heap
def CX (base : Nat) (D : va_G) (ca : Nat → ClassId) (ad : Nat → Nat) (s : State) : Prop := va_K D vwCl (tysOf ca) s ∧ lwN s ∧ SF base ad s
def WD (base : Nat) (D : va_G) (ca : Nat → ClassId) (ad : Nat → Nat) (h : Hp) (H : Heap) : Prop := va_P D vwCl (wsN 84 ad ca h) H ∧ va_D (fun q => base ≤ q) (wsN 84 ad ca h)
theorem CX.at {base : Nat} {D : va_G} {ca : Nat → ClassId} {ad : Nat → Nat} {s U : State} (h : CX base D ca ad s) (hv : s.WarmedH U.vm) (hq : ∀ a : Nat, a < s.heap.size → ¬ base ≤ a → U.heap[a]? = s.heap[a]?) : CX base D ca ad U := by
  obtain ⟨hK, hN, h1, ⟨adV, h2⟩, h3, h4, h5⟩ := h
  have ha := hv.alike
  refine ⟨hK.moved ha, hN.warm hv, fun i a b => ?_, ⟨adV, ?_⟩, ?_, ?_, ?_⟩
  · obtain ⟨q1, q2⟩ := h1 i a b
    exact ⟨(q1.moved ha).kept hq, (q2.moved ha).kept hq⟩
  · exact (h2.moved ha).kept hq
  · obtain ⟨a1, a2, a3, a4, a5⟩ := h3
    exact ⟨a1.warm hv, a2.warm hv, a3.warm hv, a4.warm hv, a5.warm hv⟩
  · exact (h4.moved ha).kept hq
  · exact (h5.moved ha).kept hq
def PcO (M : MI) (base : Nat) (D : va_G) (ca : Nat → ClassId) (ad : Nat → Nat) (av : List AV) (h : Hp) : Array Value → State → Prop := va_Pc (av.map (mv ad)) (fun U => CX base D ca ad U ∧ WD base D ca ad h U.heap)
def QcO (M : MI) (base : Nat) (D : va_G) (ca : Nat → ClassId) (ad : Nat → Nat) (r : Int) (h' : Hp) : Array Value → State → Outcome → State → Prop := match mR M with
  | none => va_Qv (S := Unit) (fun _ => True) (fun _ t => WD base D ca ad h' t.heap) (fun q => base ≤ q)
  | some _ => va_Qi (S := Unit) (fun x _ => x = Int32.ofInt r) (fun _ t => WD base D ca ad h' t.heap) (fun q => base ≤ q)
/-- a method's contract: if e is an answer and a heap, the method ends so -/
def Ct (M : MI) (av : List AV) (h : Hp) (e : Option (Int × Hp)) : Prop := LI h → hR h → (∀ v ∈ av, avR v) → ∀ r h', e = some (r, h') →
  (iR r ∧ LI h' ∧ hR h') ∧ ∀ (l : Launch) (base : Nat) (D : va_G) (ca : Nat → ClassId) (ad : Nat → Nat), Met l (mY M) (wsM M) (rmM M) (PcO M base D ca ad av h) (QcO M base D ca ad r h') 0 0 (fun q => base ≤ q)
def ZC (M : MI) (p : Program) (s : State) (m : MethodId) (args : Array Value) (meth : Method) (c : Code) (base : Nat) (D : va_G) (ca : Nat → ClassId) (ad : Nat → Nat) : Prop :=
  okM M = true ∧ p.tables.exec = Jvm.exec ∧ c.code = mC M ∧ c.maxLocals = mN M ∧ meth.sig.returnType = mR M ∧ meth.locks = false ∧ s.vm.findClass (mO M) = some m.cls ∧ (∀ w ∈ lwT, w.before args s = true) ∧ CX base D ca ad s
/-- the locals -/
def LH (ad : Nat → Nat) (la : Array Slot) (n : Nat) (ls : List (Option AV)) : Prop := la.size = n ∧ lv_wf la ∧ ∀ (i : Nat) (v : AV), ls[i]? = some (some v) → la[i]? = some (.val (mv ad v))
def ZW (M : MI) (k : Nat) (ls : List (Option AV)) (st : List AV) (h : Hp) (r : Int) (h' : Hp) : Prop :=
  ∀ (p : Program) (l : Launch) (e : Env) (s : State) (m : MethodId) (args : Array Value) (below : List Frame) (meth : Method) (c : Code) (base : Nat) (D : va_G) (ca : Nat → ClassId) (ad : Nat → Nat) (H : Heap) (locs : List Loc) (la : Array Slot),
    ZC M p s m args meth c base D ca ad → LH ad la (mN M) ls → WD base D ca ad h H → va_S (fun q => base ≤ q) s.heap H locs →
    W p l e (rmM M) s m args below meth c H locs 0 0 (MQ below (QcO M base D ca ad r h') args s 0 0 (fun q => base ≤ q)) (F0 m (pcO M k) la (st.map (mv ad)))
def Z (M : MI) (k : Nat) (ls : List (Option AV)) (st : List AV) (h : Hp) (e : Option (Int × Hp)) : Prop :=
  LI h → hR h → (∀ v ∈ st, avR v) → (∀ (i : Nat) (v : AV), ls[i]? = some (some v) → avR v) → ∀ r h', e = some (r, h') → (iR r ∧ LI h' ∧ hR h') ∧ ZW M k ls st h r h'
def bd (e : Option (Int × Hp)) (K : Int → Hp → Option (Int × Hp)) : Option (Int × Hp) := match e with
  | none => none
  | some q => K q.1 q.2
theorem bd_s (r : Int) (h : Hp) (K : Int → Hp → Option (Int × Hp)) : bd (some (r, h)) K = K r h := rfl
theorem bd_n (K : Int → Hp → Option (Int × Hp)) : bd none K = none := rfl
theorem Z.none {M : MI} {k : Nat} {ls : List (Option AV)} {st : List AV} {h : Hp} : Z M k ls st h none := fun _ _ _ _ _ _ he => by cases he
/-- fewer locals known -/
def wkL (ls ls' : List (Option AV)) : Prop := ∀ (i : Nat) (v : AV), ls'[i]? = some (some v) → ls[i]? = some (some v)
theorem Z.weak {M : MI} {k : Nat} {ls ls' : List (Option AV)} {st : List AV} {h : Hp} {e : Option (Int × Hp)} (hw : wkL ls ls') (z : Z M k ls' st h e) : Z M k ls st h e := by
  intro a b c d r h' he
  obtain ⟨z1, z2⟩ := z a b c (fun i v hi => d i v (hw i v hi)) r h' he
  exact ⟨z1, fun p l e s m args below meth c base D ca ad H locs la C L W0 S => z2 p l e s m args below meth c base D ca ad H locs la C ⟨L.1, L.2.1, fun i v hi => L.2.2 i v (hw i v hi)⟩ W0 S⟩
theorem wkL_nil (ls : List (Option AV)) : wkL ls [] := fun i v h => by simp at h
theorem wkL_n {a : Option AV} {ls ls' : List (Option AV)} (h : wkL ls ls') : wkL (a :: ls) (none :: ls') := by
  intro i v hi
  cases i with
  | zero => simp at hi
  | succ i => exact h i v hi
theorem wkL_c {a : Option AV} {ls ls' : List (Option AV)} (h : wkL ls ls') : wkL (a :: ls) (a :: ls') := by
  intro i v hi
  cases i with
  | zero => exact hi
  | succ i => exact h i v hi
end Ground
end
